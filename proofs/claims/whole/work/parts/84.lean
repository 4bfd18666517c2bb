def vItem (h p : Int) (sm : Int → Int) (en : Int → Int → Int) (i what : Int) : Int := if h = 1 ∧ i = 0 then (if what = 0 then 1 else sm (what - 1)) else if what = 0 then 0 else if what = 1 then p + (i - h) else if what = 2 then en (i - h) 1 else if what = 3 then en (i - h) 2 else if what = 4 then en (i - h) 3 else -1
theorem c_numberOfD {m : Int → Int → Int} {kd : Int → Nat × Int} {w : Nat × Nat × Nat} {D what : Int} (h1 : kd D = (7, 0)) (hw : 0 ≤ what ∧ what ≤ 6) : f_X3_numberOf [(1, D), (0, what)] (m, kd, w) = some (.inl (some (0, m D what)), (m, kd, w)) := by
  have : what = 0 ∨ what = 1 ∨ what = 2 ∨ what = 3 ∨ what = 4 ∨ what = 5 ∨ what = 6 := by omega
  rcases this with rfl | rfl | rfl | rfl | rfl | rfl | rfl <;>
  · unfold f_X3_numberOf
    refine qa_fn_eq ?_ (by simp)
    simp (disch := omega) [ev_X3_numberOf_0, ev_X3_numberOf_1, ev_X3_numberOf_2, ev_X3_numberOf_3, ev_X3_numberOf_4, ev_X3_numberOf_5, ev_X3_numberOf_6, ev_X3_numberOf_7, B_X3_numberOf_0, B_X3_numberOf_1, B_X3_numberOf_2, B_X3_numberOf_3, B_X3_numberOf_4, B_X3_numberOf_5, B_X3_numberOf_6, B_X3_numberOf_7, x_const, x_iadd, x_isub, x_imul, x_idiv, x_irem, x_ineg, x_dup, x_dup_x1, x_dup2, x_pop, x_goto, x_ifeq, x_ifne, x_iflt, x_ifge, x_ifgt, x_ifle, x_cmpeq, x_cmpne, x_cmplt, x_cmpge, x_cmpgt, x_cmple, x_null, x_nonnull, x_acmpeq, x_acmpne, x_get, x_put, x_putz, x_ald, x_ast, x_bast, x_zast, x_aast, x_alen, x_obj, x_ret, x_retz, x_vret, x_max, x_min, x_copy, x_i2l, qg_none, qg_inl, qg_inr, qg_ite, xr1, xr0, xrE, xri, xl0, xl1, xl2, xl3, xl4, xl5, xl6, xl7, xl8, xl9, xl10, xs0, xs1, xs2, xs3, xs4, xs5, xs6, xs7, xs8, xs9, xs10, xi0, xi1, xi2, xi3, xi4, xi5, xi6, xi7, xi8, xi9, xi10, xc0, xc1, xc2, xc3, xc4, xc5, xc6, xc7, xv1, xv2, xv3, xv4, xv5, xv6, xv7, dT_le, dF_le, dT_lt, dF_lt, h1, x_switch, zsw]
theorem c_itemOf {m : Int → Int → Int} {kd : Int → Nat × Int} {w : Nat × Nat × Nat} {h p cn : Int} {sm : Int → Int} {en : Int → Int → Int} (hD : CD h p cn sm en m kd) (hN : kd (-1) = (0, 0)) (hp : 0 ≤ p ∧ p ≤ 1000) {i what : Int} (hi : 0 ≤ i ∧ i < h + cn) (hw : 0 ≤ what ∧ what ≤ 7) : f_X4_numberOf [(1, 67), (0, i), (0, what)] (m, kd, w) = some (.inl (some (0, vItem h p sm en i what)), (m, kd, w)) := by
  obtain ⟨⟨k67, k68, k69, k70⟩, ⟨a1, a2, a3⟩, d0, d1, d2, d3, d4, d5, d6⟩ := hD
  by_cases hh : h = 1 ∧ i = 0
  · obtain ⟨rfl, rfl⟩ := hh
    by_cases hw0 : what = 0
    · subst hw0
      unfold f_X4_numberOf
      refine qa_fn_eq ?_ (by simp)
      simp (disch := omega) [ev_X4_numberOf_0, ev_X4_numberOf_1, ev_X4_numberOf_2, ev_X4_numberOf_3, ev_X4_numberOf_4, ev_X4_numberOf_5, ev_X4_numberOf_6, ev_X4_numberOf_7, ev_X4_numberOf_8, ev_X4_numberOf_9, ev_X4_numberOf_10, ev_X4_numberOf_11, ev_X4_numberOf_12, ev_X4_numberOf_13, ev_X4_numberOf_14, B_X4_numberOf_0, B_X4_numberOf_1, B_X4_numberOf_2, B_X4_numberOf_3, B_X4_numberOf_4, B_X4_numberOf_5, B_X4_numberOf_6, B_X4_numberOf_7, B_X4_numberOf_8, B_X4_numberOf_9, B_X4_numberOf_10, B_X4_numberOf_11, B_X4_numberOf_12, B_X4_numberOf_13, B_X4_numberOf_14, x_const, x_iadd, x_isub, x_imul, x_idiv, x_irem, x_ineg, x_dup, x_dup_x1, x_dup2, x_pop, x_goto, x_ifeq, x_ifne, x_iflt, x_ifge, x_ifgt, x_ifle, x_cmpeq, x_cmpne, x_cmplt, x_cmpge, x_cmpgt, x_cmple, x_null, x_nonnull, x_acmpeq, x_acmpne, x_get, x_put, x_putz, x_ald, x_ast, x_bast, x_zast, x_aast, x_alen, x_obj, x_ret, x_retz, x_vret, x_max, x_min, x_copy, x_i2l, qg_none, qg_inl, qg_inr, qg_ite, xr1, xr0, xrE, xri, xl0, xl1, xl2, xl3, xl4, xl5, xl6, xl7, xl8, xl9, xl10, xs0, xs1, xs2, xs3, xs4, xs5, xs6, xs7, xs8, xs9, xs10, xi0, xi1, xi2, xi3, xi4, xi5, xi6, xi7, xi8, xi9, xi10, xc0, xc1, xc2, xc3, xc4, xc5, xc6, xc7, xv1, xv2, xv3, xv4, xv5, xv6, xv7, dT_le, dF_le, dT_lt, dF_lt, k67, d0, vItem]
    · have e := c_numberOfD (m := m) (w := w) (D := 68) (what := what - 1) k68 (by omega)
      rw [d5 rfl _ (by omega) (by omega)] at e
      unfold f_X4_numberOf
      refine qa_fn_eq ?_ (by simp)
      simp (disch := omega) [ev_X4_numberOf_0, ev_X4_numberOf_1, ev_X4_numberOf_2, ev_X4_numberOf_3, ev_X4_numberOf_4, ev_X4_numberOf_5, ev_X4_numberOf_6, ev_X4_numberOf_7, ev_X4_numberOf_8, ev_X4_numberOf_9, ev_X4_numberOf_10, ev_X4_numberOf_11, ev_X4_numberOf_12, ev_X4_numberOf_13, ev_X4_numberOf_14, B_X4_numberOf_0, B_X4_numberOf_1, B_X4_numberOf_2, B_X4_numberOf_3, B_X4_numberOf_4, B_X4_numberOf_5, B_X4_numberOf_6, B_X4_numberOf_7, B_X4_numberOf_8, B_X4_numberOf_9, B_X4_numberOf_10, B_X4_numberOf_11, B_X4_numberOf_12, B_X4_numberOf_13, B_X4_numberOf_14, x_const, x_iadd, x_isub, x_imul, x_idiv, x_irem, x_ineg, x_dup, x_dup_x1, x_dup2, x_pop, x_goto, x_ifeq, x_ifne, x_iflt, x_ifge, x_ifgt, x_ifle, x_cmpeq, x_cmpne, x_cmplt, x_cmpge, x_cmpgt, x_cmple, x_null, x_nonnull, x_acmpeq, x_acmpne, x_get, x_put, x_putz, x_ald, x_ast, x_bast, x_zast, x_aast, x_alen, x_obj, x_ret, x_retz, x_vret, x_max, x_min, x_copy, x_i2l, qg_none, qg_inl, qg_inr, qg_ite, xr1, xr0, xrE, xri, xl0, xl1, xl2, xl3, xl4, xl5, xl6, xl7, xl8, xl9, xl10, xs0, xs1, xs2, xs3, xs4, xs5, xs6, xs7, xs8, xs9, xs10, xi0, xi1, xi2, xi3, xi4, xi5, xi6, xi7, xi8, xi9, xi10, xc0, xc1, xc2, xc3, xc4, xc5, xc6, xc7, xv1, xv2, xv3, xv4, xv5, xv6, xv7, dT_le, dF_le, dT_lt, dF_lt, dF_eq, k67, k68, d0, a1, hw0, e, vItem]
  · obtain ⟨e1, e2⟩ := d6 (i - h) (by omega) (by omega)
    have x1 := e2 1 (by decide) (by decide)
    have x2 := e2 2 (by decide) (by decide)
    have x3 := e2 3 (by decide) (by decide)
    have hne : m 70 (i - h) ≠ -1 := fun z => by
      rw [z, hN] at e1
      exact absurd e1 (by decide)
    unfold vItem
    rw [if_neg hh]
    generalize en (i - h) 1 = y1 at x1 ⊢
    generalize en (i - h) 2 = y2 at x2 ⊢
    generalize en (i - h) 3 = y3 at x3 ⊢
    have hq : what = 0 ∨ what = 1 ∨ what = 2 ∨ what = 3 ∨ what = 4 ∨ what = 5 ∨ what = 6 ∨ what = 7 := by omega
    rcases d1 with rfl | rfl
    · rw [Int.sub_zero] at e1 hne x1 x2 x3 ⊢
      generalize hee : m 70 i = ee at e1 hne x1 x2 x3
      rcases hq with rfl | rfl | rfl | rfl | rfl | rfl | rfl | rfl <;>
      · unfold f_X4_numberOf
        refine qa_fn_eq ?_ (by simp)
        simp (disch := omega) [ev_X4_numberOf_0, ev_X4_numberOf_1, ev_X4_numberOf_2, ev_X4_numberOf_3, ev_X4_numberOf_4, ev_X4_numberOf_5, ev_X4_numberOf_6, ev_X4_numberOf_7, ev_X4_numberOf_8, ev_X4_numberOf_9, ev_X4_numberOf_10, ev_X4_numberOf_11, ev_X4_numberOf_12, ev_X4_numberOf_13, ev_X4_numberOf_14, B_X4_numberOf_0, B_X4_numberOf_1, B_X4_numberOf_2, B_X4_numberOf_3, B_X4_numberOf_4, B_X4_numberOf_5, B_X4_numberOf_6, B_X4_numberOf_7, B_X4_numberOf_8, B_X4_numberOf_9, B_X4_numberOf_10, B_X4_numberOf_11, B_X4_numberOf_12, B_X4_numberOf_13, B_X4_numberOf_14, x_const, x_iadd, x_isub, x_imul, x_idiv, x_irem, x_ineg, x_dup, x_dup_x1, x_dup2, x_pop, x_goto, x_ifeq, x_ifne, x_iflt, x_ifge, x_ifgt, x_ifle, x_cmpeq, x_cmpne, x_cmplt, x_cmpge, x_cmpgt, x_cmple, x_null, x_nonnull, x_acmpeq, x_acmpne, x_get, x_put, x_putz, x_ald, x_ast, x_bast, x_zast, x_aast, x_alen, x_obj, x_ret, x_retz, x_vret, x_max, x_min, x_copy, x_i2l, qg_none, qg_inl, qg_inr, qg_ite, xr1, xr0, xrE, xri, xl0, xl1, xl2, xl3, xl4, xl5, xl6, xl7, xl8, xl9, xl10, xs0, xs1, xs2, xs3, xs4, xs5, xs6, xs7, xs8, xs9, xs10, xi0, xi1, xi2, xi3, xi4, xi5, xi6, xi7, xi8, xi9, xi10, xc0, xc1, xc2, xc3, xc4, xc5, xc6, xc7, xv1, xv2, xv3, xv4, xv5, xv6, xv7, dT_le, dF_le, dT_lt, dF_lt, k67, k70, d0, d2, a2, hee, e1, hne, x1, x2, x3, x_switch, zsw]
    · have hi0 : ¬ i = 0 := fun z => hh ⟨rfl, z⟩
      generalize hee : m 70 (i - 1) = ee at e1 hne x1 x2 x3
      rcases hq with rfl | rfl | rfl | rfl | rfl | rfl | rfl | rfl <;>
      · unfold f_X4_numberOf
        refine qa_fn_eq ?_ (by simp)
        simp (disch := omega) [ev_X4_numberOf_0, ev_X4_numberOf_1, ev_X4_numberOf_2, ev_X4_numberOf_3, ev_X4_numberOf_4, ev_X4_numberOf_5, ev_X4_numberOf_6, ev_X4_numberOf_7, ev_X4_numberOf_8, ev_X4_numberOf_9, ev_X4_numberOf_10, ev_X4_numberOf_11, ev_X4_numberOf_12, ev_X4_numberOf_13, ev_X4_numberOf_14, B_X4_numberOf_0, B_X4_numberOf_1, B_X4_numberOf_2, B_X4_numberOf_3, B_X4_numberOf_4, B_X4_numberOf_5, B_X4_numberOf_6, B_X4_numberOf_7, B_X4_numberOf_8, B_X4_numberOf_9, B_X4_numberOf_10, B_X4_numberOf_11, B_X4_numberOf_12, B_X4_numberOf_13, B_X4_numberOf_14, x_const, x_iadd, x_isub, x_imul, x_idiv, x_irem, x_ineg, x_dup, x_dup_x1, x_dup2, x_pop, x_goto, x_ifeq, x_ifne, x_iflt, x_ifge, x_ifgt, x_ifle, x_cmpeq, x_cmpne, x_cmplt, x_cmpge, x_cmpgt, x_cmple, x_null, x_nonnull, x_acmpeq, x_acmpne, x_get, x_put, x_putz, x_ald, x_ast, x_bast, x_zast, x_aast, x_alen, x_obj, x_ret, x_retz, x_vret, x_max, x_min, x_copy, x_i2l, qg_none, qg_inl, qg_inr, qg_ite, xr1, xr0, xrE, xri, xl0, xl1, xl2, xl3, xl4, xl5, xl6, xl7, xl8, xl9, xl10, xs0, xs1, xs2, xs3, xs4, xs5, xs6, xs7, xs8, xs9, xs10, xi0, xi1, xi2, xi3, xi4, xi5, xi6, xi7, xi8, xi9, xi10, xc0, xc1, xc2, xc3, xc4, xc5, xc6, xc7, xv1, xv2, xv3, xv4, xv5, xv6, xv7, dT_le, dF_le, dT_lt, dF_lt, dF_eq, hi0, k67, k70, d0, d2, a2, hee, e1, hne, x1, x2, x3, x_switch, zsw]
theorem cq_item {m : Int → Int → Int} {kd : Int → Nat × Int} {w : Nat × Nat × Nat} {h p cn : Int} {sm : Int → Int} {en : Int → Int → Int} (hD : CD h p cn sm en m kd) (hN : kd (-1) = (0, 0)) (hp : 0 ≤ p ∧ p ≤ 1000) (hx : kd 0 = (14, 0)) (h05 : m 0 5 = 67) (i what : Int) : f_X11_item [(1, 0), (0, i), (0, what)] (m, kd, w) = zAns 1 2 (zA2 (0 ≤ i ∧ i < h + cn) (0 ≤ what ∧ what ≤ 7) (vItem h p sm en i what)) m kd w := by
  have rg := c_needRange (m := m) (kd := kd) (w := w) what 0 7
  have hD' := hD
  obtain ⟨⟨k67, k68, k69, k70⟩, ⟨a1, a2, a3⟩, d0, d1, d2, d3, d4, d5, d6⟩ := hD'
  have ic := c_itemCount (m := m) (kd := kd) (w := w) k67 ⟨by rw [d0]; exact d1, by rw [d3]; exact d4.1, by rw [d3]; exact d4.2⟩
  rw [d3, d0] at ic
  by_cases q : 0 ≤ i ∧ i < h + cn
  · by_cases h2 : 0 ≤ what ∧ what ≤ 7
    · rw [if_pos h2] at rg
      rw [zA2_v q h2, zAns_0]
      have it := c_itemOf (w := w) hD hN hp q h2
      unfold f_X11_item
      refine qa_fn_eq ?_ (by simp)
      simp (disch := omega) [ev_X11_item_0, ev_X11_item_1, ev_X11_item_2, B_X11_item_0, B_X11_item_1, B_X11_item_2, x_const, x_iadd, x_isub, x_imul, x_idiv, x_irem, x_ineg, x_dup, x_dup_x1, x_dup2, x_pop, x_goto, x_ifeq, x_ifne, x_iflt, x_ifge, x_ifgt, x_ifle, x_cmpeq, x_cmpne, x_cmplt, x_cmpge, x_cmpgt, x_cmple, x_null, x_nonnull, x_acmpeq, x_acmpne, x_get, x_put, x_putz, x_ald, x_ast, x_bast, x_zast, x_aast, x_alen, x_obj, x_ret, x_retz, x_vret, x_max, x_min, x_copy, x_i2l, qg_none, qg_inl, qg_inr, qg_ite, xr1, xr0, xrE, xri, xl0, xl1, xl2, xl3, xl4, xl5, xl6, xl7, xl8, xl9, xl10, xs0, xs1, xs2, xs3, xs4, xs5, xs6, xs7, xs8, xs9, xs10, xi0, xi1, xi2, xi3, xi4, xi5, xi6, xi7, xi8, xi9, xi10, xc0, xc1, xc2, xc3, xc4, xc5, xc6, xc7, xv1, xv2, xv3, xv4, xv5, xv6, xv7, dT_le, dF_le, dT_lt, dF_lt, hx, h05, k67, ic, rg, it]
    · rw [if_neg h2] at rg
      rw [zA2_2 q h2, zAns_2]
      unfold f_X11_item
      refine qa_fn_eq ?_ (by simp)
      simp (disch := omega) [ev_X11_item_0, ev_X11_item_1, ev_X11_item_2, B_X11_item_0, B_X11_item_1, B_X11_item_2, x_const, x_iadd, x_isub, x_imul, x_idiv, x_irem, x_ineg, x_dup, x_dup_x1, x_dup2, x_pop, x_goto, x_ifeq, x_ifne, x_iflt, x_ifge, x_ifgt, x_ifle, x_cmpeq, x_cmpne, x_cmplt, x_cmpge, x_cmpgt, x_cmple, x_null, x_nonnull, x_acmpeq, x_acmpne, x_get, x_put, x_putz, x_ald, x_ast, x_bast, x_zast, x_aast, x_alen, x_obj, x_ret, x_retz, x_vret, x_max, x_min, x_copy, x_i2l, qg_none, qg_inl, qg_inr, qg_ite, xr1, xr0, xrE, xri, xl0, xl1, xl2, xl3, xl4, xl5, xl6, xl7, xl8, xl9, xl10, xs0, xs1, xs2, xs3, xs4, xs5, xs6, xs7, xs8, xs9, xs10, xi0, xi1, xi2, xi3, xi4, xi5, xi6, xi7, xi8, xi9, xi10, xc0, xc1, xc2, xc3, xc4, xc5, xc6, xc7, xv1, xv2, xv3, xv4, xv5, xv6, xv7, dT_le, dF_le, dT_lt, dF_lt, hx, h05, k67, ic, rg]
  · rw [zA2_1 q, zAns_1]
    by_cases q0 : i < 0
    · unfold f_X11_item
      refine qa_fn_eq ?_ (by simp)
      simp (disch := omega) [ev_X11_item_0, ev_X11_item_1, ev_X11_item_2, B_X11_item_0, B_X11_item_1, B_X11_item_2, x_const, x_iadd, x_isub, x_imul, x_idiv, x_irem, x_ineg, x_dup, x_dup_x1, x_dup2, x_pop, x_goto, x_ifeq, x_ifne, x_iflt, x_ifge, x_ifgt, x_ifle, x_cmpeq, x_cmpne, x_cmplt, x_cmpge, x_cmpgt, x_cmple, x_null, x_nonnull, x_acmpeq, x_acmpne, x_get, x_put, x_putz, x_ald, x_ast, x_bast, x_zast, x_aast, x_alen, x_obj, x_ret, x_retz, x_vret, x_max, x_min, x_copy, x_i2l, qg_none, qg_inl, qg_inr, qg_ite, xr1, xr0, xrE, xri, xl0, xl1, xl2, xl3, xl4, xl5, xl6, xl7, xl8, xl9, xl10, xs0, xs1, xs2, xs3, xs4, xs5, xs6, xs7, xs8, xs9, xs10, xi0, xi1, xi2, xi3, xi4, xi5, xi6, xi7, xi8, xi9, xi10, xc0, xc1, xc2, xc3, xc4, xc5, xc6, xc7, xv1, xv2, xv3, xv4, xv5, xv6, xv7, dT_le, dF_le, dT_lt, dF_lt, q0, x_thr]
    · unfold f_X11_item
      refine qa_fn_eq ?_ (by simp)
      simp (disch := omega) [ev_X11_item_0, ev_X11_item_1, ev_X11_item_2, B_X11_item_0, B_X11_item_1, B_X11_item_2, x_const, x_iadd, x_isub, x_imul, x_idiv, x_irem, x_ineg, x_dup, x_dup_x1, x_dup2, x_pop, x_goto, x_ifeq, x_ifne, x_iflt, x_ifge, x_ifgt, x_ifle, x_cmpeq, x_cmpne, x_cmplt, x_cmpge, x_cmpgt, x_cmple, x_null, x_nonnull, x_acmpeq, x_acmpne, x_get, x_put, x_putz, x_ald, x_ast, x_bast, x_zast, x_aast, x_alen, x_obj, x_ret, x_retz, x_vret, x_max, x_min, x_copy, x_i2l, qg_none, qg_inl, qg_inr, qg_ite, xr1, xr0, xrE, xri, xl0, xl1, xl2, xl3, xl4, xl5, xl6, xl7, xl8, xl9, xl10, xs0, xs1, xs2, xs3, xs4, xs5, xs6, xs7, xs8, xs9, xs10, xi0, xi1, xi2, xi3, xi4, xi5, xi6, xi7, xi8, xi9, xi10, xc0, xc1, xc2, xc3, xc4, xc5, xc6, xc7, xv1, xv2, xv3, xv4, xv5, xv6, xv7, dT_le, dF_le, dT_lt, dF_lt, hx, h05, k67, ic, x_thr]
theorem mq_item {m : Int → Int → Int} {kd : Int → Nat × Int} {w : Nat × Nat × Nat} (hK : KM kd) (hR : RM m) {h p cn : Int} {sm : Int → Int} {en : Int → Int → Int} (hD : QD h p cn sm en m) (h01 : h = 0 ∨ h = 1) (hc : 0 ≤ cn ∧ h + cn ≤ 99) (i what : Int) : f_X12_item [(1, 77), (0, i), (0, what)] (m, kd, w) = mAns (zA2 (0 ≤ i ∧ i < h + cn) (0 ≤ what ∧ what ≤ 7) (vItem h p sm en i what)) m kd w := by
  obtain ⟨d1, d2, d3⟩ := hD
  have rg := m_in (m := m) (kd := kd) (w := w) what 0 7
  have ni := m_in (m := m) (kd := kd) (w := w) i 0 (h + cn - 1)
  have k77 := hK.1
  have k86 := hK.2.2.2.2.2.2.2.2.2.1
  have r13 : m 77 13 = 86 := hR.2.2.2.2.2.2.2.2.1
  by_cases q : 0 ≤ i ∧ i < h + cn
  · rw [if_pos (by omega)] at ni
    by_cases h2 : 0 ≤ what ∧ what ≤ 7
    · rw [if_pos h2] at rg
      rw [zA2_v q h2, mAns_e]
      have ev : m 86 (8 * i + what) = vItem h p sm en i what := by
        unfold vItem
        by_cases hh : h = 1 ∧ i = 0
        · rw [if_pos hh]
          obtain ⟨b1, b2⟩ := d2 hh.1
          by_cases w0 : what = 0
          · rw [if_pos w0, w0, hh.2]; exact b1
          · rw [if_neg w0, ← b2 (what - 1) (by omega) (by omega), hh.2]
            congr 1
            omega
        · rw [if_neg hh]
          obtain ⟨e0, e1, e2, e3, e4, e5⟩ := d3 (i - h) (by omega) (by omega)
          have ei : h + (i - h) = i := by omega
          rw [ei] at e0 e1 e2 e3 e4 e5
          have hq : what = 0 ∨ what = 1 ∨ what = 2 ∨ what = 3 ∨ what = 4 ∨ 5 ≤ what := by omega
          rcases hq with rfl | rfl | rfl | rfl | rfl | hq
          · rw [Int.add_zero]; exact e0
          · exact e1
          · exact e2
          · exact e3
          · exact e4
          · rw [e5 what hq (by omega)]
            simp (disch := omega) only [if_neg]
      unfold f_X12_item
      refine qa_fn_eq ?_ (by simp)
      simp (disch := omega) [ev_X12_item_0, ev_X12_item_1, ev_X12_item_2, ev_X12_item_3, ev_X12_item_4, ev_X12_item_5, B_X12_item_0, B_X12_item_1, B_X12_item_2, B_X12_item_3, B_X12_item_4, B_X12_item_5, x_const, x_iadd, x_isub, x_imul, x_idiv, x_irem, x_ineg, x_dup, x_dup_x1, x_dup2, x_pop, x_goto, x_ifeq, x_ifne, x_iflt, x_ifge, x_ifgt, x_ifle, x_cmpeq, x_cmpne, x_cmplt, x_cmpge, x_cmpgt, x_cmple, x_null, x_nonnull, x_acmpeq, x_acmpne, x_get, x_put, x_putz, x_ald, x_ast, x_bast, x_zast, x_aast, x_alen, x_obj, x_ret, x_retz, x_vret, x_max, x_min, x_copy, x_i2l, qg_none, qg_inl, qg_inr, qg_ite, xr1, xr0, xrE, xri, xl0, xl1, xl2, xl3, xl4, xl5, xl6, xl7, xl8, xl9, xl10, xs0, xs1, xs2, xs3, xs4, xs5, xs6, xs7, xs8, xs9, xs10, xi0, xi1, xi2, xi3, xi4, xi5, xi6, xi7, xi8, xi9, xi10, xc0, xc1, xc2, xc3, xc4, xc5, xc6, xc7, xv1, xv2, xv3, xv4, xv5, xv6, xv7, dT_le, dF_le, dT_lt, dF_lt, dT_eq, dF_eq, qa_up_hit, qa_up_no, k77, k86, r13, d1, ni, rg, ev]
    · rw [if_neg h2] at rg
      rw [zA2_2 q h2, mAns_e]
      unfold f_X12_item
      refine qa_fn_eq ?_ (by simp)
      simp (disch := omega) [ev_X12_item_0, ev_X12_item_1, ev_X12_item_2, ev_X12_item_3, ev_X12_item_4, ev_X12_item_5, B_X12_item_0, B_X12_item_1, B_X12_item_2, B_X12_item_3, B_X12_item_4, B_X12_item_5, x_const, x_iadd, x_isub, x_imul, x_idiv, x_irem, x_ineg, x_dup, x_dup_x1, x_dup2, x_pop, x_goto, x_ifeq, x_ifne, x_iflt, x_ifge, x_ifgt, x_ifle, x_cmpeq, x_cmpne, x_cmplt, x_cmpge, x_cmpgt, x_cmple, x_null, x_nonnull, x_acmpeq, x_acmpne, x_get, x_put, x_putz, x_ald, x_ast, x_bast, x_zast, x_aast, x_alen, x_obj, x_ret, x_retz, x_vret, x_max, x_min, x_copy, x_i2l, qg_none, qg_inl, qg_inr, qg_ite, xr1, xr0, xrE, xri, xl0, xl1, xl2, xl3, xl4, xl5, xl6, xl7, xl8, xl9, xl10, xs0, xs1, xs2, xs3, xs4, xs5, xs6, xs7, xs8, xs9, xs10, xi0, xi1, xi2, xi3, xi4, xi5, xi6, xi7, xi8, xi9, xi10, xc0, xc1, xc2, xc3, xc4, xc5, xc6, xc7, xv1, xv2, xv3, xv4, xv5, xv6, xv7, dT_le, dF_le, dT_lt, dF_lt, dT_eq, dF_eq, qa_up_hit, qa_up_no, k77, d1, ni, rg]
  · rw [if_neg (by omega)] at ni
    rw [zA2_1 q, mAns_e]
    unfold f_X12_item
    refine qa_fn_eq ?_ (by simp)
    simp (disch := omega) [ev_X12_item_0, ev_X12_item_1, ev_X12_item_2, ev_X12_item_3, ev_X12_item_4, ev_X12_item_5, B_X12_item_0, B_X12_item_1, B_X12_item_2, B_X12_item_3, B_X12_item_4, B_X12_item_5, x_const, x_iadd, x_isub, x_imul, x_idiv, x_irem, x_ineg, x_dup, x_dup_x1, x_dup2, x_pop, x_goto, x_ifeq, x_ifne, x_iflt, x_ifge, x_ifgt, x_ifle, x_cmpeq, x_cmpne, x_cmplt, x_cmpge, x_cmpgt, x_cmple, x_null, x_nonnull, x_acmpeq, x_acmpne, x_get, x_put, x_putz, x_ald, x_ast, x_bast, x_zast, x_aast, x_alen, x_obj, x_ret, x_retz, x_vret, x_max, x_min, x_copy, x_i2l, qg_none, qg_inl, qg_inr, qg_ite, xr1, xr0, xrE, xri, xl0, xl1, xl2, xl3, xl4, xl5, xl6, xl7, xl8, xl9, xl10, xs0, xs1, xs2, xs3, xs4, xs5, xs6, xs7, xs8, xs9, xs10, xi0, xi1, xi2, xi3, xi4, xi5, xi6, xi7, xi8, xi9, xi10, xc0, xc1, xc2, xc3, xc4, xc5, xc6, xc7, xv1, xv2, xv3, xv4, xv5, xv6, xv7, dT_le, dF_le, dT_lt, dF_lt, dT_eq, dF_eq, qa_up_hit, qa_up_no, k77, d1, ni]
