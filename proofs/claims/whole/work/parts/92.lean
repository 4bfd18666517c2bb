theorem CS_64 {um : Int} {U SV : Int → zA} {A : zA} {m : Int → Int → Int} {kd : Int → Nat × Int} {n S v : Int} (hS : CS um U SV A m kd n S) (hv : 0 ≤ v ∧ v ≤ um) : CS v U SV A (qa_up m 64 2 v) kd n S ∧ zfx m kd (qa_up m 64 2 v) kd ∧ qa_up m 64 2 v 65 = m 65 ∧ znull (qa_up m 64 2 v) = znull m := by
  obtain ⟨rfl, h2, h3, h4, h5, h6⟩ := hS
  obtain ⟨x0, x1, ⟨x63, x64, x640, x641, x65, x66⟩, x3, x33, xm33⟩ := id h2
  have lo : ∀ c, c ≠ 64 → qa_up m 64 2 v c = m c := fun c hc => by
    funext i
    exact qa_up_no _ (fun z => hc z.1)
  have en : ∀ e, kd e = (9, 0) → qa_up m 64 2 v e = m e := fun e he => lo e (fun z => by rw [z, x64] at he; cases he)
  have u64 : ∀ i, i ≠ 2 → qa_up m 64 2 v 64 i = m 64 i := fun i hi => qa_up_no _ (fun z => hi z.2)
  refine ⟨⟨rfl, ⟨?_, ?_, ⟨x63, x64, ?_, ?_, x65, x66⟩, x3, x33, ?_⟩, ?_, ⟨qa_up_hit _ _ _ _, hv.1, by have := h4.2.2.1; omega, fun k k1 k2 => ?_⟩, fun i a b => ?_, ?_⟩, ?_, lo 65 (by decide), ?_⟩
  · rw [lo 0 (by decide)]; exact x0
  · rw [lo 1 (by decide)]; exact x1
  · rw [u64 0 (by decide)]; exact x640
  · rw [u64 1 (by decide)]; exact x641
  · exact MS_keep xm33 (fun c a b => lo c (by omega))
  · exact JS_keep h3 (fun c hc => lo c (by omega)) (lo 66 (by decide)) (lo 63 (by decide))
  · rw [lo 66 (by decide)]
    obtain ⟨v1, v2⟩ := h4.2.2.2 k k1 (by omega)
    rcases h3.1 k k1 (by have := h4.2.2.1; omega) with h | h
    · exact absurd h v1
    · exact ⟨v1, RC_93 v2 h (fun c hc => lo c (by omega)) en⟩
  · rw [lo 63 (by decide)]
    intro hne
    rcases h3.2.1 i a b with h | h
    · exact absurd h hne
    · exact RC_93 (h5 i a b hne) h (fun c hc => lo c (by omega)) en
  · exact RC_keep h6 (fun c a b => lo c (by omega)) (fun e he => ⟨en e he, rfl⟩)
  · intro c hc
    refine ⟨lo c ?_, rfl⟩
    intro z
    rw [z] at hc
    rcases hc with h | h | h | h | h | h
    · omega
    · omega
    · omega
    · omega
    · rw [x64] at h; cases h
    · rw [x64] at h; exact absurd h (by decide)
  · unfold znull
    rw [lo 66 (by decide), lo 63 (by decide)]
theorem ca_undo {m : Int → Int → Int} {kd : Int → Nat × Int} {w : Nat × Nat × Nat} {n um S : Int} {U SV : Int → zA} {A : zA} {M : Int} (hS : CS um U SV A m kd n S) (hUW : ∀ k, 0 ≤ k → k < um → zW M (U k)) : (um = 0 → f_X11_undo [(1, 0)] (m, kd, w) = some (.inl (some (0, -1)), (m, kd, w))) ∧ (0 < um → ∃ m', f_X11_undo [(1, 0)] (m, kd, w) = some (.inl (some (0, um - 1)), (m', kd, w)) ∧ CS (um - 1) U SV (U (um - 1)) m' kd n S ∧ zfx m kd m' kd ∧ m' 65 = m 65 ∧ znull m' = znull m) := by
  obtain ⟨hK, hC, hx, hn, h4, k64, h00, k1, x640, x65⟩ := hS.f
  have hS' := hS
  obtain ⟨rfl, h2, hJ, hU, h5, h6⟩ := hS'
  obtain ⟨x0, x1, ⟨x63, x64, x640', x641, x65', x66⟩, x3, x33, xm33⟩ := id h2
  obtain ⟨u1, u2, u3, u4⟩ := id hU
  have kS := hK.2.1
  refine ⟨fun h => ?_, fun h => ?_⟩
  · have u1' : m 64 2 = 0 := by omega
    have tb : f_X1_takeBack [(1, 64), (1, 3)] (m, kd, w) = some (.inl (some (0, -1)), (m, kd, w)) := by
      unfold f_X1_takeBack
      refine qa_fn_eq ?_ (by simp)
      simp (disch := omega) [ev_X1_takeBack_0, ev_X1_takeBack_1, ev_X1_takeBack_2, ev_X1_takeBack_3, B_X1_takeBack_0, B_X1_takeBack_1, B_X1_takeBack_2, B_X1_takeBack_3, x_const, x_iadd, x_isub, x_imul, x_idiv, x_irem, x_ineg, x_dup, x_dup_x1, x_dup2, x_pop, x_goto, x_ifeq, x_ifne, x_iflt, x_ifge, x_ifgt, x_ifle, x_cmpeq, x_cmpne, x_cmplt, x_cmpge, x_cmpgt, x_cmple, x_null, x_nonnull, x_acmpeq, x_acmpne, x_get, x_put, x_putz, x_ald, x_ast, x_bast, x_zast, x_aast, x_alen, x_obj, x_ret, x_retz, x_vret, x_max, x_min, x_copy, x_i2l, qg_none, qg_inl, qg_inr, qg_ite, xr1, xr0, xrE, xri, xl0, xl1, xl2, xl3, xl4, xl5, xl6, xl7, xl8, xl9, xl10, xs0, xs1, xs2, xs3, xs4, xs5, xs6, xs7, xs8, xs9, xs10, xi0, xi1, xi2, xi3, xi4, xi5, xi6, xi7, xi8, xi9, xi10, xc0, xc1, xc2, xc3, xc4, xc5, xc6, xc7, xv1, xv2, xv3, xv4, xv5, xv6, xv7, dT_le, dF_le, dT_lt, dF_lt, x64, u1']
    unfold f_X11_undo
    refine qa_fn_eq ?_ (by simp)
    simp (disch := omega) [ev_X11_undo_0, B_X11_undo_0, x_const, x_iadd, x_isub, x_imul, x_idiv, x_irem, x_ineg, x_dup, x_dup_x1, x_dup2, x_pop, x_goto, x_ifeq, x_ifne, x_iflt, x_ifge, x_ifgt, x_ifle, x_cmpeq, x_cmpne, x_cmplt, x_cmpge, x_cmpgt, x_cmple, x_null, x_nonnull, x_acmpeq, x_acmpne, x_get, x_put, x_putz, x_ald, x_ast, x_bast, x_zast, x_aast, x_alen, x_obj, x_ret, x_retz, x_vret, x_max, x_min, x_copy, x_i2l, qg_none, qg_inl, qg_inr, qg_ite, xr1, xr0, xrE, xri, xl0, xl1, xl2, xl3, xl4, xl5, xl6, xl7, xl8, xl9, xl10, xs0, xs1, xs2, xs3, xs4, xs5, xs6, xs7, xs8, xs9, xs10, xi0, xi1, xi2, xi3, xi4, xi5, xi6, xi7, xi8, xi9, xi10, xc0, xc1, xc2, xc3, xc4, xc5, xc6, xc7, xv1, xv2, xv3, xv4, xv5, xv6, xv7, dT_le, dF_le, dT_lt, dF_lt, hx, hn, h4, k64, tb]
  · obtain ⟨g1, g2, g3, g4⟩ := CS_64 (v := um - 1) hS ⟨by omega, by omega⟩
    obtain ⟨v1, v2⟩ := u4 (um - 1) (by omega) (by omega)
    have hO : JO m kd n (m 66 (um - 1)) := by
      rcases hJ.1 (um - 1) (by omega) (by omega) with h | h
      · exact absurd h v1
      · exact h
    obtain ⟨o1, o2, o3, o4⟩ := id hO
    have lo : ∀ c, c ≠ 64 → qa_up m 64 2 (um - 1) c = m c := fun c hc => by
      funext i
      exact qa_up_no _ (fun z => hc z.1)
    have en : ∀ e, kd e = (9, 0) → qa_up m 64 2 (um - 1) e = m e := fun e he => lo e (fun z => by rw [z, x64] at he; cases he)
    have v2' : RC (U (um - 1)) (qa_up m 64 2 (um - 1)) kd (m 66 (um - 1)) := RC_93 v2 hO (fun c hc => lo c (by omega)) en
    obtain ⟨-, hC1, -⟩ := g1.f
    obtain ⟨m', i1, i2, i3⟩ := c_copyS (w := w) hK hC1.1 o3 v2' (hUW _ (by omega) (by omega)) (KS_apart hK o3 (by omega))
    obtain ⟨e1, e2, e3, e4⟩ := CS_now g1 i3 i2
    have t2 : m' 64 2 = um - 1 := by rw [i3 64 (by omega), qa_up_hit]
    have kSS := o3.2.1
    have hne : ¬ m 66 (um - 1) = -1 := v1
    have tb : f_X1_takeBack [(1, 64), (1, 3)] (m, kd, w) = some (.inl (some (0, um - 1)), (m', kd, w)) := by
      unfold f_X1_takeBack
      refine qa_fn_eq ?_ (by simp)
      simp (disch := omega) [ev_X1_takeBack_0, ev_X1_takeBack_1, ev_X1_takeBack_2, ev_X1_takeBack_3, B_X1_takeBack_0, B_X1_takeBack_1, B_X1_takeBack_2, B_X1_takeBack_3, x_const, x_iadd, x_isub, x_imul, x_idiv, x_irem, x_ineg, x_dup, x_dup_x1, x_dup2, x_pop, x_goto, x_ifeq, x_ifne, x_iflt, x_ifge, x_ifgt, x_ifle, x_cmpeq, x_cmpne, x_cmplt, x_cmpge, x_cmpgt, x_cmple, x_null, x_nonnull, x_acmpeq, x_acmpne, x_get, x_put, x_putz, x_ald, x_ast, x_bast, x_zast, x_aast, x_alen, x_obj, x_ret, x_retz, x_vret, x_max, x_min, x_copy, x_i2l, qg_none, qg_inl, qg_inr, qg_ite, xr1, xr0, xrE, xri, xl0, xl1, xl2, xl3, xl4, xl5, xl6, xl7, xl8, xl9, xl10, xs0, xs1, xs2, xs3, xs4, xs5, xs6, xs7, xs8, xs9, xs10, xi0, xi1, xi2, xi3, xi4, xi5, xi6, xi7, xi8, xi9, xi10, xc0, xc1, xc2, xc3, xc4, xc5, xc6, xc7, xv1, xv2, xv3, xv4, xv5, xv6, xv7, dT_le, dF_le, dT_lt, dF_lt, dT_eq, dF_eq, qa_up_hit, qa_up_no, x64, u1, x641, x66, hne, kS, i1, t2]
    refine ⟨m', ?_, e1, g2.trans e2, by rw [e3, g3], by rw [e4, g4]⟩
    unfold f_X11_undo
    refine qa_fn_eq ?_ (by simp)
    simp (disch := omega) [ev_X11_undo_0, B_X11_undo_0, x_const, x_iadd, x_isub, x_imul, x_idiv, x_irem, x_ineg, x_dup, x_dup_x1, x_dup2, x_pop, x_goto, x_ifeq, x_ifne, x_iflt, x_ifge, x_ifgt, x_ifle, x_cmpeq, x_cmpne, x_cmplt, x_cmpge, x_cmpgt, x_cmple, x_null, x_nonnull, x_acmpeq, x_acmpne, x_get, x_put, x_putz, x_ald, x_ast, x_bast, x_zast, x_aast, x_alen, x_obj, x_ret, x_retz, x_vret, x_max, x_min, x_copy, x_i2l, qg_none, qg_inl, qg_inr, qg_ite, xr1, xr0, xrE, xri, xl0, xl1, xl2, xl3, xl4, xl5, xl6, xl7, xl8, xl9, xl10, xs0, xs1, xs2, xs3, xs4, xs5, xs6, xs7, xs8, xs9, xs10, xi0, xi1, xi2, xi3, xi4, xi5, xi6, xi7, xi8, xi9, xi10, xc0, xc1, xc2, xc3, xc4, xc5, xc6, xc7, xv1, xv2, xv3, xv4, xv5, xv6, xv7, dT_le, dF_le, dT_lt, dF_lt, hx, hn, h4, k64, tb]
theorem ca_restore {m : Int → Int → Int} {kd : Int → Nat × Int} {w : Nat × Nat × Nat} {n um S : Int} {U SV : Int → zA} {A : zA} {M : Int} (hS : CS um U SV A m kd n S) {i : Int} (hSW : 0 ≤ i → i < 2 → m 63 i ≠ -1 → zW M (SV i)) : (¬ (0 ≤ i ∧ i ≤ 1) → f_X11_restore [(1, 0), (0, i)] (m, kd, w) = some (.inr 2, (m, kd, w.1, w.2.1 + 1, w.2.2 + 6))) ∧ ((0 ≤ i ∧ i ≤ 1) → m 63 i = -1 → f_X11_restore [(1, 0), (0, i)] (m, kd, w) = some (.inr 3, (m, kd, w.1, w.2.1 + 1, w.2.2 + 6))) ∧ ((0 ≤ i ∧ i ≤ 1) → m 63 i ≠ -1 → ∃ m', f_X11_restore [(1, 0), (0, i)] (m, kd, w) = some (.inl none, (m', kd, w)) ∧ CS 0 U SV (SV i) m' kd n S ∧ zfx m kd m' kd ∧ m' 65 = m 65 ∧ znull m' = znull m) := by
  obtain ⟨hK, hC, hx, hn, h4, k64, h00, k1, x640, x65⟩ := hS.f
  have hS' := hS
  obtain ⟨rfl, h2, hJ, hU, h5, h6⟩ := hS'
  obtain ⟨x0, x1, ⟨x63, x64, x640', x641, x65', x66⟩, x3, x33, xm33⟩ := id h2
  have kS := hK.2.1
  have h03 : m 0 3 = 63 := x0.2.2.2.2.1
  have rg := c_needRange (m := m) (kd := kd) (w := w) i 0 1
  refine ⟨fun h => ?_, fun h hz => ?_, fun h hz => ?_⟩
  · rw [if_neg h] at rg
    unfold f_X11_restore
    refine qa_fn_eq ?_ (by simp)
    simp (disch := omega) [ev_X11_restore_0, ev_X11_restore_1, B_X11_restore_0, B_X11_restore_1, x_const, x_iadd, x_isub, x_imul, x_idiv, x_irem, x_ineg, x_dup, x_dup_x1, x_dup2, x_pop, x_goto, x_ifeq, x_ifne, x_iflt, x_ifge, x_ifgt, x_ifle, x_cmpeq, x_cmpne, x_cmplt, x_cmpge, x_cmpgt, x_cmple, x_null, x_nonnull, x_acmpeq, x_acmpne, x_get, x_put, x_putz, x_ald, x_ast, x_bast, x_zast, x_aast, x_alen, x_obj, x_ret, x_retz, x_vret, x_max, x_min, x_copy, x_i2l, qg_none, qg_inl, qg_inr, qg_ite, xr1, xr0, xrE, xri, xl0, xl1, xl2, xl3, xl4, xl5, xl6, xl7, xl8, xl9, xl10, xs0, xs1, xs2, xs3, xs4, xs5, xs6, xs7, xs8, xs9, xs10, xi0, xi1, xi2, xi3, xi4, xi5, xi6, xi7, xi8, xi9, xi10, xc0, xc1, xc2, xc3, xc4, xc5, xc6, xc7, xv1, xv2, xv3, xv4, xv5, xv6, xv7, dT_le, dF_le, dT_lt, dF_lt, rg]
  · rw [if_pos h] at rg
    unfold f_X11_restore
    refine qa_fn_eq ?_ (by simp)
    simp (disch := omega) [ev_X11_restore_0, ev_X11_restore_1, B_X11_restore_0, B_X11_restore_1, x_const, x_iadd, x_isub, x_imul, x_idiv, x_irem, x_ineg, x_dup, x_dup_x1, x_dup2, x_pop, x_goto, x_ifeq, x_ifne, x_iflt, x_ifge, x_ifgt, x_ifle, x_cmpeq, x_cmpne, x_cmplt, x_cmpge, x_cmpgt, x_cmple, x_null, x_nonnull, x_acmpeq, x_acmpne, x_get, x_put, x_putz, x_ald, x_ast, x_bast, x_zast, x_aast, x_alen, x_obj, x_ret, x_retz, x_vret, x_max, x_min, x_copy, x_i2l, qg_none, qg_inl, qg_inr, qg_ite, xr1, xr0, xrE, xri, xl0, xl1, xl2, xl3, xl4, xl5, xl6, xl7, xl8, xl9, xl10, xs0, xs1, xs2, xs3, xs4, xs5, xs6, xs7, xs8, xs9, xs10, xi0, xi1, xi2, xi3, xi4, xi5, xi6, xi7, xi8, xi9, xi10, xc0, xc1, xc2, xc3, xc4, xc5, xc6, xc7, xv1, xv2, xv3, xv4, xv5, xv6, xv7, dT_le, dF_le, dT_lt, dF_lt, hx, h03, x63, rg, hz, x_thr]
  · rw [if_pos h] at rg
    have hO : JO m kd n (m 63 i) := by
      rcases hJ.2.1 i (by omega) (by omega) with h | h
      · exact absurd h hz
      · exact h
    obtain ⟨o1, o2, o3, o4⟩ := id hO
    obtain ⟨m1, i1, i2, i3⟩ := c_copyS (w := w) hK hC.1 o3 (h5 i (by omega) (by omega) hz) (hSW (by omega) (by omega) hz) (KS_apart hK o3 (by omega))
    obtain ⟨e1, e2, e3, e4⟩ := CS_now hS i3 i2
    obtain ⟨g1, g2, g3, g4⟩ := CS_64 (v := 0) e1 ⟨by decide, e1.2.2.2.1.2.1⟩
    have t1 : m1 0 4 = 64 := by rw [i3 0 (by omega)]; exact h4
    have kSS := o3.2.1
    refine ⟨qa_up m1 64 2 0, ?_, g1, e2.trans g2, by rw [g3, e3], by rw [g4, e4]⟩
    unfold f_X11_restore
    refine qa_fn_eq ?_ (by simp)
    simp (disch := omega) [ev_X11_restore_0, ev_X11_restore_1, B_X11_restore_0, B_X11_restore_1, x_const, x_iadd, x_isub, x_imul, x_idiv, x_irem, x_ineg, x_dup, x_dup_x1, x_dup2, x_pop, x_goto, x_ifeq, x_ifne, x_iflt, x_ifge, x_ifgt, x_ifle, x_cmpeq, x_cmpne, x_cmplt, x_cmpge, x_cmpgt, x_cmple, x_null, x_nonnull, x_acmpeq, x_acmpne, x_get, x_put, x_putz, x_ald, x_ast, x_bast, x_zast, x_aast, x_alen, x_obj, x_ret, x_retz, x_vret, x_max, x_min, x_copy, x_i2l, qg_none, qg_inl, qg_inr, qg_ite, xr1, xr0, xrE, xri, xl0, xl1, xl2, xl3, xl4, xl5, xl6, xl7, xl8, xl9, xl10, xs0, xs1, xs2, xs3, xs4, xs5, xs6, xs7, xs8, xs9, xs10, xi0, xi1, xi2, xi3, xi4, xi5, xi6, xi7, xi8, xi9, xi10, xc0, xc1, xc2, xc3, xc4, xc5, xc6, xc7, xv1, xv2, xv3, xv4, xv5, xv6, xv7, dT_le, dF_le, dT_lt, dF_lt, hx, hn, h03, x63, rg, hz, kS, i1, t1, k64]
