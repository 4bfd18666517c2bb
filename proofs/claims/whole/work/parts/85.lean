def zLo (what : Int) : Int := if what = 2 ∨ what = 3 ∨ what = 6 then 0 else 1
def zHi (what : Int) : Int := if what = 0 then 400 else if what = 1 then 900 else if what = 2 then 500 else if what = 3 then 99 else if what = 4 then 9 else if what = 5 then 60 else 1
theorem x_slen {n : Int} {o : Int} {q : Nat × List Int} (k : qI) (ls r : List qV) (a : qA) (h : qa_sL o = some q) (hn : (q.2.length : Int) = n) : q_slen k ls ((1, o) :: r) a = k ls ((0, n) :: r) a := by
  simp [q_slen, h, hn]
theorem x_sld {o i v : Int} {q : Nat × List Int} (ty : Nat) (k : qI) (ls r : List qV) (a : qA) (h : qa_sL o = some q) (ht : q.1 = ty) (hi : 0 ≤ i ∧ i < (q.2.length : Int)) (hv : q.2.getD i.toNat 0 = v) : q_sld ty k ls ((0, i) :: (1, o) :: r) a = k ls ((if ty = 110 then 1 else 0, v) :: r) a := by
  have h1 : i.toNat < q.2.length := by omega
  simp [q_sld, h, ht, hi.1, hi.2, h1, ← hv]
theorem sL_10 : qa_sL (-10) = some (101, [1, 1, 0, 0, 1, 1, 0]) := by decide +kernel
theorem sL_11 : qa_sL (-11) = some (101, [400, 900, 500, 99, 9, 60, 1]) := by decide +kernel
theorem x_slen10 (k : qI) (ls r : List qV) (a : qA) : q_slen k ls ((1, -10) :: r) a = k ls ((0, 7) :: r) a := x_slen k ls r a sL_10 rfl
theorem x_slen11 (k : qI) (ls r : List qV) (a : qA) : q_slen k ls ((1, -11) :: r) a = k ls ((0, 7) :: r) a := x_slen k ls r a sL_11 rfl
theorem x_sld10 {i : Int} (k : qI) (ls r : List qV) (a : qA) (hi : 0 ≤ i ∧ i ≤ 6) : q_sld 101 k ls ((0, i) :: (1, -10) :: r) a = k ls ((0, zLo i) :: r) a := by
  refine x_sld 101 k ls r a sL_10 rfl ⟨hi.1, by show i < 7; omega⟩ ?_
  have : i = 0 ∨ i = 1 ∨ i = 2 ∨ i = 3 ∨ i = 4 ∨ i = 5 ∨ i = 6 := by omega
  rcases this with rfl | rfl | rfl | rfl | rfl | rfl | rfl <;> rfl
theorem x_sld11 {i : Int} (k : qI) (ls r : List qV) (a : qA) (hi : 0 ≤ i ∧ i ≤ 6) : q_sld 101 k ls ((0, i) :: (1, -11) :: r) a = k ls ((0, zHi i) :: r) a := by
  refine x_sld 101 k ls r a sL_11 rfl ⟨hi.1, by show i < 7; omega⟩ ?_
  have : i = 0 ∨ i = 1 ∨ i = 2 ∨ i = 3 ∨ i = 4 ∨ i = 5 ∨ i = 6 := by omega
  rcases this with rfl | rfl | rfl | rfl | rfl | rfl | rfl <;> rfl
theorem c_leastOf {m : Int → Int → Int} {kd : Int → Nat × Int} {w : Nat × Nat × Nat} {y i : Int} (hi : 0 ≤ i ∧ i ≤ 6) : f_X7_leastOf [(1, y), (0, i)] (m, kd, w) = some (.inl (some (0, zLo i)), (m, kd, w)) := by
  unfold f_X7_leastOf
  refine qa_fn_eq ?_ (by simp)
  simp (disch := omega) [ev_X7_leastOf_0, ev_X7_leastOf_1, ev_X7_leastOf_2, B_X7_leastOf_0, B_X7_leastOf_1, B_X7_leastOf_2, x_const, x_iadd, x_isub, x_imul, x_idiv, x_irem, x_ineg, x_dup, x_dup_x1, x_dup2, x_pop, x_goto, x_ifeq, x_ifne, x_iflt, x_ifge, x_ifgt, x_ifle, x_cmpeq, x_cmpne, x_cmplt, x_cmpge, x_cmpgt, x_cmple, x_null, x_nonnull, x_acmpeq, x_acmpne, x_get, x_put, x_putz, x_ald, x_ast, x_bast, x_zast, x_aast, x_alen, x_obj, x_ret, x_retz, x_vret, x_max, x_min, x_copy, x_i2l, qg_none, qg_inl, qg_inr, qg_ite, xr1, xr0, xrE, xri, xl0, xl1, xl2, xl3, xl4, xl5, xl6, xl7, xl8, xl9, xl10, xs0, xs1, xs2, xs3, xs4, xs5, xs6, xs7, xs8, xs9, xs10, xi0, xi1, xi2, xi3, xi4, xi5, xi6, xi7, xi8, xi9, xi10, xc0, xc1, xc2, xc3, xc4, xc5, xc6, xc7, xv1, xv2, xv3, xv4, xv5, xv6, xv7, dT_le, dF_le, dT_lt, dF_lt, x_slen10, x_sld10]
theorem c_mostOf {m : Int → Int → Int} {kd : Int → Nat × Int} {w : Nat × Nat × Nat} {y i : Int} (hi : 0 ≤ i ∧ i ≤ 6) : f_X7_mostOf [(1, y), (0, i)] (m, kd, w) = some (.inl (some (0, zHi i)), (m, kd, w)) := by
  unfold f_X7_mostOf
  refine qa_fn_eq ?_ (by simp)
  simp (disch := omega) [ev_X7_mostOf_0, ev_X7_mostOf_1, ev_X7_mostOf_2, B_X7_mostOf_0, B_X7_mostOf_1, B_X7_mostOf_2, x_const, x_iadd, x_isub, x_imul, x_idiv, x_irem, x_ineg, x_dup, x_dup_x1, x_dup2, x_pop, x_goto, x_ifeq, x_ifne, x_iflt, x_ifge, x_ifgt, x_ifle, x_cmpeq, x_cmpne, x_cmplt, x_cmpge, x_cmpgt, x_cmple, x_null, x_nonnull, x_acmpeq, x_acmpne, x_get, x_put, x_putz, x_ald, x_ast, x_bast, x_zast, x_aast, x_alen, x_obj, x_ret, x_retz, x_vret, x_max, x_min, x_copy, x_i2l, qg_none, qg_inl, qg_inr, qg_ite, xr1, xr0, xrE, xri, xl0, xl1, xl2, xl3, xl4, xl5, xl6, xl7, xl8, xl9, xl10, xs0, xs1, xs2, xs3, xs4, xs5, xs6, xs7, xs8, xs9, xs10, xi0, xi1, xi2, xi3, xi4, xi5, xi6, xi7, xi8, xi9, xi10, xc0, xc1, xc2, xc3, xc4, xc5, xc6, xc7, xv1, xv2, xv3, xv4, xv5, xv6, xv7, dT_le, dF_le, dT_lt, dF_lt, x_slen11, x_sld11]
theorem m_lowOf {m : Int → Int → Int} {kd : Int → Nat × Int} {w : Nat × Nat × Nat} {i : Int} (hi : 0 ≤ i ∧ i ≤ 6) : f_X12_lowOf [(0, i)] (m, kd, w) = some (.inl (some (0, zLo i)), (m, kd, w)) := by
  have : i = 0 ∨ i = 1 ∨ i = 2 ∨ i = 3 ∨ i = 4 ∨ i = 5 ∨ i = 6 := by omega
  rcases this with rfl | rfl | rfl | rfl | rfl | rfl | rfl <;>
  · unfold f_X12_lowOf
    refine qa_fn_eq ?_ (by simp)
    simp (disch := omega) [ev_X12_lowOf_0, ev_X12_lowOf_1, ev_X12_lowOf_2, ev_X12_lowOf_3, B_X12_lowOf_0, B_X12_lowOf_1, B_X12_lowOf_2, B_X12_lowOf_3, x_const, x_iadd, x_isub, x_imul, x_idiv, x_irem, x_ineg, x_dup, x_dup_x1, x_dup2, x_pop, x_goto, x_ifeq, x_ifne, x_iflt, x_ifge, x_ifgt, x_ifle, x_cmpeq, x_cmpne, x_cmplt, x_cmpge, x_cmpgt, x_cmple, x_null, x_nonnull, x_acmpeq, x_acmpne, x_get, x_put, x_putz, x_ald, x_ast, x_bast, x_zast, x_aast, x_alen, x_obj, x_ret, x_retz, x_vret, x_max, x_min, x_copy, x_i2l, qg_none, qg_inl, qg_inr, qg_ite, xr1, xr0, xrE, xri, xl0, xl1, xl2, xl3, xl4, xl5, xl6, xl7, xl8, xl9, xl10, xs0, xs1, xs2, xs3, xs4, xs5, xs6, xs7, xs8, xs9, xs10, xi0, xi1, xi2, xi3, xi4, xi5, xi6, xi7, xi8, xi9, xi10, xc0, xc1, xc2, xc3, xc4, xc5, xc6, xc7, xv1, xv2, xv3, xv4, xv5, xv6, xv7, dT_le, dF_le, dT_lt, dF_lt, zLo]
theorem m_highOf {m : Int → Int → Int} {kd : Int → Nat × Int} {w : Nat × Nat × Nat} {i : Int} (hi : 0 ≤ i ∧ i ≤ 6) : f_X12_highOf [(0, i)] (m, kd, w) = some (.inl (some (0, zHi i)), (m, kd, w)) := by
  have : i = 0 ∨ i = 1 ∨ i = 2 ∨ i = 3 ∨ i = 4 ∨ i = 5 ∨ i = 6 := by omega
  rcases this with rfl | rfl | rfl | rfl | rfl | rfl | rfl <;>
  · unfold f_X12_highOf
    refine qa_fn_eq ?_ (by simp)
    simp (disch := omega) [ev_X12_highOf_0, ev_X12_highOf_1, ev_X12_highOf_2, ev_X12_highOf_3, ev_X12_highOf_4, ev_X12_highOf_5, ev_X12_highOf_6, ev_X12_highOf_7, B_X12_highOf_0, B_X12_highOf_1, B_X12_highOf_2, B_X12_highOf_3, B_X12_highOf_4, B_X12_highOf_5, B_X12_highOf_6, B_X12_highOf_7, x_const, x_iadd, x_isub, x_imul, x_idiv, x_irem, x_ineg, x_dup, x_dup_x1, x_dup2, x_pop, x_goto, x_ifeq, x_ifne, x_iflt, x_ifge, x_ifgt, x_ifle, x_cmpeq, x_cmpne, x_cmplt, x_cmpge, x_cmpgt, x_cmple, x_null, x_nonnull, x_acmpeq, x_acmpne, x_get, x_put, x_putz, x_ald, x_ast, x_bast, x_zast, x_aast, x_alen, x_obj, x_ret, x_retz, x_vret, x_max, x_min, x_copy, x_i2l, qg_none, qg_inl, qg_inr, qg_ite, xr1, xr0, xrE, xri, xl0, xl1, xl2, xl3, xl4, xl5, xl6, xl7, xl8, xl9, xl10, xs0, xs1, xs2, xs3, xs4, xs5, xs6, xs7, xs8, xs9, xs10, xi0, xi1, xi2, xi3, xi4, xi5, xi6, xi7, xi8, xi9, xi10, xc0, xc1, xc2, xc3, xc4, xc5, xc6, xc7, xv1, xv2, xv3, xv4, xv5, xv6, xv7, dT_le, dF_le, dT_lt, dF_lt, x_switch, zsw, zHi]
abbrev zSok (what v : Int) : Prop := (0 ≤ what ∧ what ≤ 6) ∧ zLo what ≤ v ∧ v ≤ zHi what
theorem c_change {m : Int → Int → Int} {kd : Int → Nat × Int} {w : Nat × Nat × Nat} {st : Int → Int} {y z i v : Int} (hy : CR st m kd y z) (hi : 0 ≤ i ∧ i ≤ 6) : f_X7_change [(1, y), (0, i), (0, v)] (m, kd, w) = some (.inl none, (qa_up m z i v, kd, w)) := by
  obtain ⟨y1, y2, y3, y4⟩ := hy
  unfold f_X7_change
  refine qa_fn_eq ?_ (by simp)
  simp (disch := omega) [ev_X7_change_0, ev_X7_change_1, B_X7_change_0, B_X7_change_1, x_const, x_iadd, x_isub, x_imul, x_idiv, x_irem, x_ineg, x_dup, x_dup_x1, x_dup2, x_pop, x_goto, x_ifeq, x_ifne, x_iflt, x_ifge, x_ifgt, x_ifle, x_cmpeq, x_cmpne, x_cmplt, x_cmpge, x_cmpgt, x_cmple, x_null, x_nonnull, x_acmpeq, x_acmpne, x_get, x_put, x_putz, x_ald, x_ast, x_bast, x_zast, x_aast, x_alen, x_obj, x_ret, x_retz, x_vret, x_max, x_min, x_copy, x_i2l, qg_none, qg_inl, qg_inr, qg_ite, xr1, xr0, xrE, xri, xl0, xl1, xl2, xl3, xl4, xl5, xl6, xl7, xl8, xl9, xl10, xs0, xs1, xs2, xs3, xs4, xs5, xs6, xs7, xs8, xs9, xs10, xi0, xi1, xi2, xi3, xi4, xi5, xi6, xi7, xi8, xi9, xi10, xc0, xc1, xc2, xc3, xc4, xc5, xc6, xc7, xv1, xv2, xv3, xv4, xv5, xv6, xv7, dT_le, dF_le, dT_lt, dF_lt, y1, y2, y3]
theorem cs_set {m : Int → Int → Int} {kd : Int → Nat × Int} {w : Nat × Nat × Nat} {st : Int → Int} (hy : CR st m kd 1 2) (hx : kd 0 = (14, 0)) (hr0 : m 0 0 = 1) (what v : Int) : f_X11_set [(1, 0), (0, what), (0, v)] (m, kd, w) = if zSok what v then some (.inl (some (0, st what)), (qa_up m 2 what v, kd, w)) else some (.inr 2, (m, kd, w.1, w.2.1 + 1, w.2.2 + 6)) := by
  have k1 := hy.1
  have rg1 := c_needRange (m := m) (kd := kd) (w := w) what 0 6
  have rg2 := c_needRange (m := m) (kd := kd) (w := w) v (zLo what) (zHi what)
  by_cases h1 : 0 ≤ what ∧ what ≤ 6
  · rw [if_pos h1] at rg1
    have a1 := c_leastOf (m := m) (kd := kd) (w := w) (y := 1) h1
    have a2 := c_mostOf (m := m) (kd := kd) (w := w) (y := 1) h1
    have a3 := c_valueOf (w := w) hy what ⟨h1.1, by omega⟩
    have a4 := c_change (w := w) (v := v) hy h1
    by_cases h2 : zLo what ≤ v ∧ v ≤ zHi what
    · rw [if_pos h2] at rg2
      rw [if_pos ⟨h1, h2⟩]
      unfold f_X11_set
      refine qa_fn_eq ?_ (by simp)
      simp (disch := omega) [ev_X11_set_0, B_X11_set_0, x_const, x_iadd, x_isub, x_imul, x_idiv, x_irem, x_ineg, x_dup, x_dup_x1, x_dup2, x_pop, x_goto, x_ifeq, x_ifne, x_iflt, x_ifge, x_ifgt, x_ifle, x_cmpeq, x_cmpne, x_cmplt, x_cmpge, x_cmpgt, x_cmple, x_null, x_nonnull, x_acmpeq, x_acmpne, x_get, x_put, x_putz, x_ald, x_ast, x_bast, x_zast, x_aast, x_alen, x_obj, x_ret, x_retz, x_vret, x_max, x_min, x_copy, x_i2l, qg_none, qg_inl, qg_inr, qg_ite, xr1, xr0, xrE, xri, xl0, xl1, xl2, xl3, xl4, xl5, xl6, xl7, xl8, xl9, xl10, xs0, xs1, xs2, xs3, xs4, xs5, xs6, xs7, xs8, xs9, xs10, xi0, xi1, xi2, xi3, xi4, xi5, xi6, xi7, xi8, xi9, xi10, xc0, xc1, xc2, xc3, xc4, xc5, xc6, xc7, xv1, xv2, xv3, xv4, xv5, xv6, xv7, dT_le, dF_le, dT_lt, dF_lt, hx, hr0, k1, rg1, rg2, a1, a2, a3, a4]
    · rw [if_neg h2] at rg2
      rw [if_neg (fun z => h2 z.2)]
      unfold f_X11_set
      refine qa_fn_eq ?_ (by simp)
      simp (disch := omega) [ev_X11_set_0, B_X11_set_0, x_const, x_iadd, x_isub, x_imul, x_idiv, x_irem, x_ineg, x_dup, x_dup_x1, x_dup2, x_pop, x_goto, x_ifeq, x_ifne, x_iflt, x_ifge, x_ifgt, x_ifle, x_cmpeq, x_cmpne, x_cmplt, x_cmpge, x_cmpgt, x_cmple, x_null, x_nonnull, x_acmpeq, x_acmpne, x_get, x_put, x_putz, x_ald, x_ast, x_bast, x_zast, x_aast, x_alen, x_obj, x_ret, x_retz, x_vret, x_max, x_min, x_copy, x_i2l, qg_none, qg_inl, qg_inr, qg_ite, xr1, xr0, xrE, xri, xl0, xl1, xl2, xl3, xl4, xl5, xl6, xl7, xl8, xl9, xl10, xs0, xs1, xs2, xs3, xs4, xs5, xs6, xs7, xs8, xs9, xs10, xi0, xi1, xi2, xi3, xi4, xi5, xi6, xi7, xi8, xi9, xi10, xc0, xc1, xc2, xc3, xc4, xc5, xc6, xc7, xv1, xv2, xv3, xv4, xv5, xv6, xv7, dT_le, dF_le, dT_lt, dF_lt, hx, hr0, k1, rg1, rg2, a1, a2]
  · rw [if_neg h1] at rg1
    rw [if_neg (fun z => h1 z.1)]
    unfold f_X11_set
    refine qa_fn_eq ?_ (by simp)
    simp (disch := omega) [ev_X11_set_0, B_X11_set_0, x_const, x_iadd, x_isub, x_imul, x_idiv, x_irem, x_ineg, x_dup, x_dup_x1, x_dup2, x_pop, x_goto, x_ifeq, x_ifne, x_iflt, x_ifge, x_ifgt, x_ifle, x_cmpeq, x_cmpne, x_cmplt, x_cmpge, x_cmpgt, x_cmple, x_null, x_nonnull, x_acmpeq, x_acmpne, x_get, x_put, x_putz, x_ald, x_ast, x_bast, x_zast, x_aast, x_alen, x_obj, x_ret, x_retz, x_vret, x_max, x_min, x_copy, x_i2l, qg_none, qg_inl, qg_inr, qg_ite, xr1, xr0, xrE, xri, xl0, xl1, xl2, xl3, xl4, xl5, xl6, xl7, xl8, xl9, xl10, xs0, xs1, xs2, xs3, xs4, xs5, xs6, xs7, xs8, xs9, xs10, xi0, xi1, xi2, xi3, xi4, xi5, xi6, xi7, xi8, xi9, xi10, xc0, xc1, xc2, xc3, xc4, xc5, xc6, xc7, xv1, xv2, xv3, xv4, xv5, xv6, xv7, dT_le, dF_le, dT_lt, dF_lt, rg1]
theorem ms_set {m : Int → Int → Int} {kd : Int → Nat × Int} {w : Nat × Nat × Nat} (hK : KM kd) (hR : RM m) {st : Int → Int} (hS : QS st m) (what v : Int) : f_X12_set [(1, 77), (0, what), (0, v)] (m, kd, w) = if zSok what v then some (.inl (some (0, st what)), (qa_up (qa_up m 77 0 0) 78 what v, kd, w)) else some (.inl (some (0, 0)), (qa_up m 77 0 1, kd, w)) := by
  have k77 := hK.1
  have k78 := hK.2.1
  have r1 : m 77 1 = 78 := hR.1
  have rg1 := m_in (m := m) (kd := kd) (w := w) what 0 6
  have rg2 := m_in (m := m) (kd := kd) (w := w) v (zLo what) (zHi what)
  by_cases h1 : 0 ≤ what ∧ what ≤ 6
  · rw [if_pos h1] at rg1
    have a1 := m_lowOf (m := m) (kd := kd) (w := w) h1
    have a2 := m_highOf (m := m) (kd := kd) (w := w) h1
    have e := hS what h1.1 (by omega)
    by_cases h2 : zLo what ≤ v ∧ v ≤ zHi what
    · rw [if_pos h2] at rg2
      rw [if_pos ⟨h1, h2⟩]
      unfold f_X12_set
      refine qa_fn_eq ?_ (by simp)
      simp (disch := omega) [ev_X12_set_0, ev_X12_set_1, ev_X12_set_2, ev_X12_set_3, B_X12_set_0, B_X12_set_1, B_X12_set_2, B_X12_set_3, x_const, x_iadd, x_isub, x_imul, x_idiv, x_irem, x_ineg, x_dup, x_dup_x1, x_dup2, x_pop, x_goto, x_ifeq, x_ifne, x_iflt, x_ifge, x_ifgt, x_ifle, x_cmpeq, x_cmpne, x_cmplt, x_cmpge, x_cmpgt, x_cmple, x_null, x_nonnull, x_acmpeq, x_acmpne, x_get, x_put, x_putz, x_ald, x_ast, x_bast, x_zast, x_aast, x_alen, x_obj, x_ret, x_retz, x_vret, x_max, x_min, x_copy, x_i2l, qg_none, qg_inl, qg_inr, qg_ite, xr1, xr0, xrE, xri, xl0, xl1, xl2, xl3, xl4, xl5, xl6, xl7, xl8, xl9, xl10, xs0, xs1, xs2, xs3, xs4, xs5, xs6, xs7, xs8, xs9, xs10, xi0, xi1, xi2, xi3, xi4, xi5, xi6, xi7, xi8, xi9, xi10, xc0, xc1, xc2, xc3, xc4, xc5, xc6, xc7, xv1, xv2, xv3, xv4, xv5, xv6, xv7, dT_le, dF_le, dT_lt, dF_lt, dT_eq, dF_eq, qa_up_hit, qa_up_no, k77, k78, r1, rg1, rg2, a1, a2, e]
    · rw [if_neg h2] at rg2
      rw [if_neg (fun z => h2 z.2)]
      unfold f_X12_set
      refine qa_fn_eq ?_ (by simp)
      simp (disch := omega) [ev_X12_set_0, ev_X12_set_1, ev_X12_set_2, ev_X12_set_3, B_X12_set_0, B_X12_set_1, B_X12_set_2, B_X12_set_3, x_const, x_iadd, x_isub, x_imul, x_idiv, x_irem, x_ineg, x_dup, x_dup_x1, x_dup2, x_pop, x_goto, x_ifeq, x_ifne, x_iflt, x_ifge, x_ifgt, x_ifle, x_cmpeq, x_cmpne, x_cmplt, x_cmpge, x_cmpgt, x_cmple, x_null, x_nonnull, x_acmpeq, x_acmpne, x_get, x_put, x_putz, x_ald, x_ast, x_bast, x_zast, x_aast, x_alen, x_obj, x_ret, x_retz, x_vret, x_max, x_min, x_copy, x_i2l, qg_none, qg_inl, qg_inr, qg_ite, xr1, xr0, xrE, xri, xl0, xl1, xl2, xl3, xl4, xl5, xl6, xl7, xl8, xl9, xl10, xs0, xs1, xs2, xs3, xs4, xs5, xs6, xs7, xs8, xs9, xs10, xi0, xi1, xi2, xi3, xi4, xi5, xi6, xi7, xi8, xi9, xi10, xc0, xc1, xc2, xc3, xc4, xc5, xc6, xc7, xv1, xv2, xv3, xv4, xv5, xv6, xv7, dT_le, dF_le, dT_lt, dF_lt, dT_eq, dF_eq, qa_up_hit, qa_up_no, k77, k78, r1, rg1, rg2, a1, a2]
  · rw [if_neg h1] at rg1
    rw [if_neg (fun z => h1 z.1)]
    unfold f_X12_set
    refine qa_fn_eq ?_ (by simp)
    simp (disch := omega) [ev_X12_set_0, ev_X12_set_1, ev_X12_set_2, ev_X12_set_3, B_X12_set_0, B_X12_set_1, B_X12_set_2, B_X12_set_3, x_const, x_iadd, x_isub, x_imul, x_idiv, x_irem, x_ineg, x_dup, x_dup_x1, x_dup2, x_pop, x_goto, x_ifeq, x_ifne, x_iflt, x_ifge, x_ifgt, x_ifle, x_cmpeq, x_cmpne, x_cmplt, x_cmpge, x_cmpgt, x_cmple, x_null, x_nonnull, x_acmpeq, x_acmpne, x_get, x_put, x_putz, x_ald, x_ast, x_bast, x_zast, x_aast, x_alen, x_obj, x_ret, x_retz, x_vret, x_max, x_min, x_copy, x_i2l, qg_none, qg_inl, qg_inr, qg_ite, xr1, xr0, xrE, xri, xl0, xl1, xl2, xl3, xl4, xl5, xl6, xl7, xl8, xl9, xl10, xs0, xs1, xs2, xs3, xs4, xs5, xs6, xs7, xs8, xs9, xs10, xi0, xi1, xi2, xi3, xi4, xi5, xi6, xi7, xi8, xi9, xi10, xc0, xc1, xc2, xc3, xc4, xc5, xc6, xc7, xv1, xv2, xv3, xv4, xv5, xv6, xv7, dT_le, dF_le, dT_lt, dF_lt, dT_eq, dF_eq, qa_up_hit, qa_up_no, k77, k78, r1, rg1]
theorem cq_account {m : Int → Int → Int} {kd : Int → Nat × Int} {w : Nat × Nat × Nat} (hx : kd 0 = (14, 0)) (h4 : m 0 4 = 64) (k64 : kd 64 = (5, 0)) (x640 : m 64 0 = 65) (x65 : kd 65 = (101, 11)) (what : Int) : f_X11_account [(1, 0), (0, what)] (m, kd, w) = zAns 2 2 (zA1 (0 ≤ what ∧ what ≤ 10) (m 65 what)) m kd w := by
  have rg1 := c_needRange (m := m) (kd := kd) (w := w) what 0 10
  by_cases h1 : 0 ≤ what ∧ what ≤ 10
  · rw [if_pos h1] at rg1
    rw [zA1_v h1, zAns_0]
    have e : f_X1_accountOf [(1, 64), (0, what)] (m, kd, w) = some (.inl (some (0, m 65 what)), (m, kd, w)) := by
      unfold f_X1_accountOf
      refine qa_fn_eq ?_ (by simp)
      simp (disch := omega) [ev_X1_accountOf_0, ev_X1_accountOf_1, ev_X1_accountOf_2, B_X1_accountOf_0, B_X1_accountOf_1, B_X1_accountOf_2, x_const, x_iadd, x_isub, x_imul, x_idiv, x_irem, x_ineg, x_dup, x_dup_x1, x_dup2, x_pop, x_goto, x_ifeq, x_ifne, x_iflt, x_ifge, x_ifgt, x_ifle, x_cmpeq, x_cmpne, x_cmplt, x_cmpge, x_cmpgt, x_cmple, x_null, x_nonnull, x_acmpeq, x_acmpne, x_get, x_put, x_putz, x_ald, x_ast, x_bast, x_zast, x_aast, x_alen, x_obj, x_ret, x_retz, x_vret, x_max, x_min, x_copy, x_i2l, qg_none, qg_inl, qg_inr, qg_ite, xr1, xr0, xrE, xri, xl0, xl1, xl2, xl3, xl4, xl5, xl6, xl7, xl8, xl9, xl10, xs0, xs1, xs2, xs3, xs4, xs5, xs6, xs7, xs8, xs9, xs10, xi0, xi1, xi2, xi3, xi4, xi5, xi6, xi7, xi8, xi9, xi10, xc0, xc1, xc2, xc3, xc4, xc5, xc6, xc7, xv1, xv2, xv3, xv4, xv5, xv6, xv7, dT_le, dF_le, dT_lt, dF_lt, k64, x640, x65]
    unfold f_X11_account
    refine qa_fn_eq ?_ (by simp)
    simp (disch := omega) [ev_X11_account_0, B_X11_account_0, x_const, x_iadd, x_isub, x_imul, x_idiv, x_irem, x_ineg, x_dup, x_dup_x1, x_dup2, x_pop, x_goto, x_ifeq, x_ifne, x_iflt, x_ifge, x_ifgt, x_ifle, x_cmpeq, x_cmpne, x_cmplt, x_cmpge, x_cmpgt, x_cmple, x_null, x_nonnull, x_acmpeq, x_acmpne, x_get, x_put, x_putz, x_ald, x_ast, x_bast, x_zast, x_aast, x_alen, x_obj, x_ret, x_retz, x_vret, x_max, x_min, x_copy, x_i2l, qg_none, qg_inl, qg_inr, qg_ite, xr1, xr0, xrE, xri, xl0, xl1, xl2, xl3, xl4, xl5, xl6, xl7, xl8, xl9, xl10, xs0, xs1, xs2, xs3, xs4, xs5, xs6, xs7, xs8, xs9, xs10, xi0, xi1, xi2, xi3, xi4, xi5, xi6, xi7, xi8, xi9, xi10, xc0, xc1, xc2, xc3, xc4, xc5, xc6, xc7, xv1, xv2, xv3, xv4, xv5, xv6, xv7, dT_le, dF_le, dT_lt, dF_lt, hx, h4, k64, rg1, e]
  · rw [if_neg h1] at rg1
    rw [zA1_1 h1, zAns_1]
    unfold f_X11_account
    refine qa_fn_eq ?_ (by simp)
    simp (disch := omega) [ev_X11_account_0, B_X11_account_0, x_const, x_iadd, x_isub, x_imul, x_idiv, x_irem, x_ineg, x_dup, x_dup_x1, x_dup2, x_pop, x_goto, x_ifeq, x_ifne, x_iflt, x_ifge, x_ifgt, x_ifle, x_cmpeq, x_cmpne, x_cmplt, x_cmpge, x_cmpgt, x_cmple, x_null, x_nonnull, x_acmpeq, x_acmpne, x_get, x_put, x_putz, x_ald, x_ast, x_bast, x_zast, x_aast, x_alen, x_obj, x_ret, x_retz, x_vret, x_max, x_min, x_copy, x_i2l, qg_none, qg_inl, qg_inr, qg_ite, xr1, xr0, xrE, xri, xl0, xl1, xl2, xl3, xl4, xl5, xl6, xl7, xl8, xl9, xl10, xs0, xs1, xs2, xs3, xs4, xs5, xs6, xs7, xs8, xs9, xs10, xi0, xi1, xi2, xi3, xi4, xi5, xi6, xi7, xi8, xi9, xi10, xc0, xc1, xc2, xc3, xc4, xc5, xc6, xc7, xv1, xv2, xv3, xv4, xv5, xv6, xv7, dT_le, dF_le, dT_lt, dF_lt, rg1]
theorem mq_account {m : Int → Int → Int} {kd : Int → Nat × Int} {w : Nat × Nat × Nat} (hK : KM kd) (hR : RM m) (what : Int) : f_X12_account [(1, 77), (0, what)] (m, kd, w) = mAns (zA1 (0 ≤ what ∧ what ≤ 10) (m 84 what)) m kd w := by
  have k77 := hK.1
  have k84 := hK.2.2.2.2.2.2.2.1
  have r8 : m 77 8 = 84 := hR.2.2.2.2.2.2.1
  have rg1 := m_in (m := m) (kd := kd) (w := w) what 0 10
  by_cases h1 : 0 ≤ what ∧ what ≤ 10
  · rw [if_pos h1] at rg1
    rw [zA1_v h1, mAns_e]
    unfold f_X12_account
    refine qa_fn_eq ?_ (by simp)
    simp (disch := omega) [ev_X12_account_0, ev_X12_account_1, ev_X12_account_2, ev_X12_account_3, ev_X12_account_4, B_X12_account_0, B_X12_account_1, B_X12_account_2, B_X12_account_3, B_X12_account_4, x_const, x_iadd, x_isub, x_imul, x_idiv, x_irem, x_ineg, x_dup, x_dup_x1, x_dup2, x_pop, x_goto, x_ifeq, x_ifne, x_iflt, x_ifge, x_ifgt, x_ifle, x_cmpeq, x_cmpne, x_cmplt, x_cmpge, x_cmpgt, x_cmple, x_null, x_nonnull, x_acmpeq, x_acmpne, x_get, x_put, x_putz, x_ald, x_ast, x_bast, x_zast, x_aast, x_alen, x_obj, x_ret, x_retz, x_vret, x_max, x_min, x_copy, x_i2l, qg_none, qg_inl, qg_inr, qg_ite, xr1, xr0, xrE, xri, xl0, xl1, xl2, xl3, xl4, xl5, xl6, xl7, xl8, xl9, xl10, xs0, xs1, xs2, xs3, xs4, xs5, xs6, xs7, xs8, xs9, xs10, xi0, xi1, xi2, xi3, xi4, xi5, xi6, xi7, xi8, xi9, xi10, xc0, xc1, xc2, xc3, xc4, xc5, xc6, xc7, xv1, xv2, xv3, xv4, xv5, xv6, xv7, dT_le, dF_le, dT_lt, dF_lt, dT_eq, dF_eq, qa_up_hit, qa_up_no, k77, k84, r8, rg1]
  · rw [if_neg h1] at rg1
    rw [zA1_1 h1, mAns_e]
    unfold f_X12_account
    refine qa_fn_eq ?_ (by simp)
    simp (disch := omega) [ev_X12_account_0, ev_X12_account_1, ev_X12_account_2, ev_X12_account_3, ev_X12_account_4, B_X12_account_0, B_X12_account_1, B_X12_account_2, B_X12_account_3, B_X12_account_4, x_const, x_iadd, x_isub, x_imul, x_idiv, x_irem, x_ineg, x_dup, x_dup_x1, x_dup2, x_pop, x_goto, x_ifeq, x_ifne, x_iflt, x_ifge, x_ifgt, x_ifle, x_cmpeq, x_cmpne, x_cmplt, x_cmpge, x_cmpgt, x_cmple, x_null, x_nonnull, x_acmpeq, x_acmpne, x_get, x_put, x_putz, x_ald, x_ast, x_bast, x_zast, x_aast, x_alen, x_obj, x_ret, x_retz, x_vret, x_max, x_min, x_copy, x_i2l, qg_none, qg_inl, qg_inr, qg_ite, xr1, xr0, xrE, xri, xl0, xl1, xl2, xl3, xl4, xl5, xl6, xl7, xl8, xl9, xl10, xs0, xs1, xs2, xs3, xs4, xs5, xs6, xs7, xs8, xs9, xs10, xi0, xi1, xi2, xi3, xi4, xi5, xi6, xi7, xi8, xi9, xi10, xc0, xc1, xc2, xc3, xc4, xc5, xc6, xc7, xv1, xv2, xv3, xv4, xv5, xv6, xv7, dT_le, dF_le, dT_lt, dF_lt, dT_eq, dF_eq, qa_up_hit, qa_up_no, k77, k84, r8, rg1]
def vCount (A : zA) (st : Int → Int) (um it what : Int) : Int := if what ≤ 6 then st what else if what = 7 then A.1 0 else if what = 8 then zsum (fun b => if A.2.1 b 1 = 1 then 1 else 0) 4 else if what = 9 then zsum (fun r => if A.2.2.1 r 0 = 1 then 1 else 0) 6 else if what = 10 then zlive A else if what = 11 then A.1 1 else if what ≤ 15 then A.1 (2 + (what - 12)) else if what = 16 then um else it
theorem cq_count {m : Int → Int → Int} {kd : Int → Nat × Int} {w : Nat × Nat × Nat} {A : zA} {S : Int} (hK : KS kd S) (hC : RC A m kd S) {M : Int} (hW : zW M A) (hx : kd 0 = (14, 0)) (hn : m 0 1 = S) {st : Int → Int} (hy : CR st m kd 1 2) (hr0 : m 0 0 = 1) (h4 : m 0 4 = 64) (k64 : kd 64 = (5, 0)) {um it : Int} (hu : m 64 2 = um) (h05 : m 0 5 = 67) (k67 : kd 67 = (8, 0)) (ic : f_X4_itemCount [(1, 67)] (m, kd, w) = some (.inl (some (0, it)), (m, kd, w))) (what : Int) : f_X11_count [(1, 0), (0, what)] (m, kd, w) = zAns 2 2 (zA1 (0 ≤ what ∧ what ≤ 17) (vCount A st um it what)) m kd w := by
  have rg1 := c_needRange (m := m) (kd := kd) (w := w) what 0 17
  by_cases h1 : 0 ≤ what ∧ what ≤ 17
  · rw [if_pos h1] at rg1
    rw [zA1_v h1, zAns_0]
    have k1 := hy.1
    have kS := hK.2.1
    have t0 : m S 0 = A.1 0 := hC.2.1
    have t1 : m S 1 = A.1 1 := hC.2.2.1
    have e1 := c_branchCount (w := w) hK hC hW
    have e2 := c_readerCount (w := w) hK hC hW
    have e3 := c_entryCount (w := w) hK hC hW
    have hq : (0 ≤ what ∧ what ≤ 6) ∨ (12 ≤ what ∧ what ≤ 15) ∨ what = 7 ∨ what = 8 ∨ what = 9 ∨ what = 10 ∨ what = 11 ∨ what = 16 ∨ what = 17 := by omega
    rcases hq with hq | hq | rfl | rfl | rfl | rfl | rfl | rfl | rfl
    · have a3 := c_valueOf (w := w) hy what ⟨hq.1, by omega⟩
      unfold vCount
      rw [if_pos hq.2]
      unfold f_X11_count
      refine qa_fn_eq ?_ (by simp)
      simp (disch := omega) [ev_X11_count_0, ev_X11_count_1, ev_X11_count_2, ev_X11_count_3, ev_X11_count_4, ev_X11_count_5, ev_X11_count_6, ev_X11_count_7, ev_X11_count_8, ev_X11_count_9, B_X11_count_0, B_X11_count_1, B_X11_count_2, B_X11_count_3, B_X11_count_4, B_X11_count_5, B_X11_count_6, B_X11_count_7, B_X11_count_8, B_X11_count_9, x_const, x_iadd, x_isub, x_imul, x_idiv, x_irem, x_ineg, x_dup, x_dup_x1, x_dup2, x_pop, x_goto, x_ifeq, x_ifne, x_iflt, x_ifge, x_ifgt, x_ifle, x_cmpeq, x_cmpne, x_cmplt, x_cmpge, x_cmpgt, x_cmple, x_null, x_nonnull, x_acmpeq, x_acmpne, x_get, x_put, x_putz, x_ald, x_ast, x_bast, x_zast, x_aast, x_alen, x_obj, x_ret, x_retz, x_vret, x_max, x_min, x_copy, x_i2l, qg_none, qg_inl, qg_inr, qg_ite, xr1, xr0, xrE, xri, xl0, xl1, xl2, xl3, xl4, xl5, xl6, xl7, xl8, xl9, xl10, xs0, xs1, xs2, xs3, xs4, xs5, xs6, xs7, xs8, xs9, xs10, xi0, xi1, xi2, xi3, xi4, xi5, xi6, xi7, xi8, xi9, xi10, xc0, xc1, xc2, xc3, xc4, xc5, xc6, xc7, xv1, xv2, xv3, xv4, xv5, xv6, xv7, dT_le, dF_le, dT_lt, dF_lt, hx, hr0, k1, rg1, a3]
    · have a3 := c_cutsWith (w := w) (c := what - 12) hK hC ⟨by omega, by omega⟩
      unfold vCount
      rw [if_neg (by omega), if_neg (by omega), if_neg (by omega), if_neg (by omega), if_neg (by omega), if_neg (by omega), if_pos hq.2]
      unfold f_X11_count
      refine qa_fn_eq ?_ (by simp)
      simp (disch := omega) [ev_X11_count_0, ev_X11_count_1, ev_X11_count_2, ev_X11_count_3, ev_X11_count_4, ev_X11_count_5, ev_X11_count_6, ev_X11_count_7, ev_X11_count_8, ev_X11_count_9, B_X11_count_0, B_X11_count_1, B_X11_count_2, B_X11_count_3, B_X11_count_4, B_X11_count_5, B_X11_count_6, B_X11_count_7, B_X11_count_8, B_X11_count_9, x_const, x_iadd, x_isub, x_imul, x_idiv, x_irem, x_ineg, x_dup, x_dup_x1, x_dup2, x_pop, x_goto, x_ifeq, x_ifne, x_iflt, x_ifge, x_ifgt, x_ifle, x_cmpeq, x_cmpne, x_cmplt, x_cmpge, x_cmpgt, x_cmple, x_null, x_nonnull, x_acmpeq, x_acmpne, x_get, x_put, x_putz, x_ald, x_ast, x_bast, x_zast, x_aast, x_alen, x_obj, x_ret, x_retz, x_vret, x_max, x_min, x_copy, x_i2l, qg_none, qg_inl, qg_inr, qg_ite, xr1, xr0, xrE, xri, xl0, xl1, xl2, xl3, xl4, xl5, xl6, xl7, xl8, xl9, xl10, xs0, xs1, xs2, xs3, xs4, xs5, xs6, xs7, xs8, xs9, xs10, xi0, xi1, xi2, xi3, xi4, xi5, xi6, xi7, xi8, xi9, xi10, xc0, xc1, xc2, xc3, xc4, xc5, xc6, xc7, xv1, xv2, xv3, xv4, xv5, xv6, xv7, dT_le, dF_le, dT_lt, dF_lt, hx, hn, kS, rg1, a3]
    all_goals
      unfold f_X11_count
      refine qa_fn_eq ?_ (by simp)
      simp (disch := omega) [ev_X11_count_0, ev_X11_count_1, ev_X11_count_2, ev_X11_count_3, ev_X11_count_4, ev_X11_count_5, ev_X11_count_6, ev_X11_count_7, ev_X11_count_8, ev_X11_count_9, B_X11_count_0, B_X11_count_1, B_X11_count_2, B_X11_count_3, B_X11_count_4, B_X11_count_5, B_X11_count_6, B_X11_count_7, B_X11_count_8, B_X11_count_9, x_const, x_iadd, x_isub, x_imul, x_idiv, x_irem, x_ineg, x_dup, x_dup_x1, x_dup2, x_pop, x_goto, x_ifeq, x_ifne, x_iflt, x_ifge, x_ifgt, x_ifle, x_cmpeq, x_cmpne, x_cmplt, x_cmpge, x_cmpgt, x_cmple, x_null, x_nonnull, x_acmpeq, x_acmpne, x_get, x_put, x_putz, x_ald, x_ast, x_bast, x_zast, x_aast, x_alen, x_obj, x_ret, x_retz, x_vret, x_max, x_min, x_copy, x_i2l, qg_none, qg_inl, qg_inr, qg_ite, xr1, xr0, xrE, xri, xl0, xl1, xl2, xl3, xl4, xl5, xl6, xl7, xl8, xl9, xl10, xs0, xs1, xs2, xs3, xs4, xs5, xs6, xs7, xs8, xs9, xs10, xi0, xi1, xi2, xi3, xi4, xi5, xi6, xi7, xi8, xi9, xi10, xc0, xc1, xc2, xc3, xc4, xc5, xc6, xc7, xv1, xv2, xv3, xv4, xv5, xv6, xv7, dT_le, dF_le, dT_lt, dF_lt, hx, hn, kS, rg1, x_switch, zsw, t0, t1, e1, e2, e3, h4, k64, hu, h05, k67, ic, vCount]
  · rw [if_neg h1] at rg1
    rw [zA1_1 h1, zAns_1]
    unfold f_X11_count
    refine qa_fn_eq ?_ (by simp)
    simp (disch := omega) [ev_X11_count_0, ev_X11_count_1, ev_X11_count_2, ev_X11_count_3, ev_X11_count_4, ev_X11_count_5, ev_X11_count_6, ev_X11_count_7, ev_X11_count_8, ev_X11_count_9, B_X11_count_0, B_X11_count_1, B_X11_count_2, B_X11_count_3, B_X11_count_4, B_X11_count_5, B_X11_count_6, B_X11_count_7, B_X11_count_8, B_X11_count_9, x_const, x_iadd, x_isub, x_imul, x_idiv, x_irem, x_ineg, x_dup, x_dup_x1, x_dup2, x_pop, x_goto, x_ifeq, x_ifne, x_iflt, x_ifge, x_ifgt, x_ifle, x_cmpeq, x_cmpne, x_cmplt, x_cmpge, x_cmpgt, x_cmple, x_null, x_nonnull, x_acmpeq, x_acmpne, x_get, x_put, x_putz, x_ald, x_ast, x_bast, x_zast, x_aast, x_alen, x_obj, x_ret, x_retz, x_vret, x_max, x_min, x_copy, x_i2l, qg_none, qg_inl, qg_inr, qg_ite, xr1, xr0, xrE, xri, xl0, xl1, xl2, xl3, xl4, xl5, xl6, xl7, xl8, xl9, xl10, xs0, xs1, xs2, xs3, xs4, xs5, xs6, xs7, xs8, xs9, xs10, xi0, xi1, xi2, xi3, xi4, xi5, xi6, xi7, xi8, xi9, xi10, xc0, xc1, xc2, xc3, xc4, xc5, xc6, xc7, xv1, xv2, xv3, xv4, xv5, xv6, xv7, dT_le, dF_le, dT_lt, dF_lt, rg1]
theorem mq_count {m : Int → Int → Int} {kd : Int → Nat × Int} {w : Nat × Nat × Nat} {A : zA} (hK : KM kd) (hR : RM m) (hQ : QR A (m 79)) {M : Int} (hW : zW M A) {st : Int → Int} (hS : QS st m) {um it : Int} (hu : m 77 5 = um) (hi : m 77 14 = it) (what : Int) : f_X12_count [(1, 77), (0, what)] (m, kd, w) = mAns (zA1 (0 ≤ what ∧ what ≤ 17) (vCount A st um it what)) m kd w := by
  have rg1 := m_in (m := m) (kd := kd) (w := w) what 0 17
  have hRt : ∀ t, RM (qa_up m 77 0 t) := fun t => by rw [RM_t]; exact hR
  have hQt : ∀ t, QR A ((qa_up m 77 0 t) 79) := fun t => hQ
  by_cases h1 : 0 ≤ what ∧ what ≤ 17
  · rw [if_pos h1] at rg1
    rw [zA1_v h1, mAns_e]
    have e1 := m_branchMany (w := w) hK (hRt 0) (hQt 0)
    have e2 := m_readerMany (w := w) hK (hRt 0) (hQt 0)
    have e3 := m_entryMany (w := w) hK (hRt 0) (hQt 0) hW
    obtain ⟨k77, k78, k79, k80, k81, k82, k83, k84, k85, k86, k87, k88, k89, k90⟩ := id hK
    obtain ⟨r1, r2, r3, r4, r6, r7, r8, r12, r13, r15, r23, r25, r26⟩ := id hR
    obtain ⟨g0, g1, gC, gI, gB, gJ, gR, gD, gE⟩ := id hQ
    have hq : (0 ≤ what ∧ what ≤ 6) ∨ (12 ≤ what ∧ what ≤ 15) ∨ what = 7 ∨ what = 8 ∨ what = 9 ∨ what = 10 ∨ what = 11 ∨ what = 16 ∨ what = 17 := by omega
    rcases hq with hq | hq | rfl | rfl | rfl | rfl | rfl | rfl | rfl
    · have e := hS what hq.1 (by omega)
      unfold vCount
      rw [if_pos hq.2]
      have hz : what = 0 ∨ what = 1 ∨ what = 2 ∨ what = 3 ∨ what = 4 ∨ what = 5 ∨ what = 6 := by omega
      rcases hz with rfl | rfl | rfl | rfl | rfl | rfl | rfl <;>
      · unfold f_X12_count
        refine qa_fn_eq ?_ (by simp)
        simp (disch := omega) [ev_X12_count_0, ev_X12_count_1, ev_X12_count_2, ev_X12_count_3, ev_X12_count_4, ev_X12_count_5, ev_X12_count_6, ev_X12_count_7, ev_X12_count_8, ev_X12_count_9, ev_X12_count_10, ev_X12_count_11, ev_X12_count_12, ev_X12_count_13, ev_X12_count_14, B_X12_count_0, B_X12_count_1, B_X12_count_2, B_X12_count_3, B_X12_count_4, B_X12_count_5, B_X12_count_6, B_X12_count_7, B_X12_count_8, B_X12_count_9, B_X12_count_10, B_X12_count_11, B_X12_count_12, B_X12_count_13, B_X12_count_14, x_const, x_iadd, x_isub, x_imul, x_idiv, x_irem, x_ineg, x_dup, x_dup_x1, x_dup2, x_pop, x_goto, x_ifeq, x_ifne, x_iflt, x_ifge, x_ifgt, x_ifle, x_cmpeq, x_cmpne, x_cmplt, x_cmpge, x_cmpgt, x_cmple, x_null, x_nonnull, x_acmpeq, x_acmpne, x_get, x_put, x_putz, x_ald, x_ast, x_bast, x_zast, x_aast, x_alen, x_obj, x_ret, x_retz, x_vret, x_max, x_min, x_copy, x_i2l, qg_none, qg_inl, qg_inr, qg_ite, xr1, xr0, xrE, xri, xl0, xl1, xl2, xl3, xl4, xl5, xl6, xl7, xl8, xl9, xl10, xs0, xs1, xs2, xs3, xs4, xs5, xs6, xs7, xs8, xs9, xs10, xi0, xi1, xi2, xi3, xi4, xi5, xi6, xi7, xi8, xi9, xi10, xc0, xc1, xc2, xc3, xc4, xc5, xc6, xc7, xv1, xv2, xv3, xv4, xv5, xv6, xv7, dT_le, dF_le, dT_lt, dF_lt, dT_eq, dF_eq, qa_up_hit, qa_up_no, k77, k78, r1, rg1, x_switch, zsw, e]
    · have e := gC (what - 12) (by omega) (by omega)
      have e' : m 79 (2 + what - 12) = A.1 (2 + (what - 12)) := by rw [← e]; congr 1; omega
      unfold vCount
      rw [if_neg (by omega), if_neg (by omega), if_neg (by omega), if_neg (by omega), if_neg (by omega), if_neg (by omega), if_pos hq.2]
      have hz : what = 12 ∨ what = 13 ∨ what = 14 ∨ what = 15 := by omega
      rcases hz with rfl | rfl | rfl | rfl <;>
      · simp only [Int.reduceAdd, Int.reduceSub] at e'
        unfold f_X12_count
        refine qa_fn_eq ?_ (by simp)
        simp (disch := omega) [ev_X12_count_0, ev_X12_count_1, ev_X12_count_2, ev_X12_count_3, ev_X12_count_4, ev_X12_count_5, ev_X12_count_6, ev_X12_count_7, ev_X12_count_8, ev_X12_count_9, ev_X12_count_10, ev_X12_count_11, ev_X12_count_12, ev_X12_count_13, ev_X12_count_14, B_X12_count_0, B_X12_count_1, B_X12_count_2, B_X12_count_3, B_X12_count_4, B_X12_count_5, B_X12_count_6, B_X12_count_7, B_X12_count_8, B_X12_count_9, B_X12_count_10, B_X12_count_11, B_X12_count_12, B_X12_count_13, B_X12_count_14, x_const, x_iadd, x_isub, x_imul, x_idiv, x_irem, x_ineg, x_dup, x_dup_x1, x_dup2, x_pop, x_goto, x_ifeq, x_ifne, x_iflt, x_ifge, x_ifgt, x_ifle, x_cmpeq, x_cmpne, x_cmplt, x_cmpge, x_cmpgt, x_cmple, x_null, x_nonnull, x_acmpeq, x_acmpne, x_get, x_put, x_putz, x_ald, x_ast, x_bast, x_zast, x_aast, x_alen, x_obj, x_ret, x_retz, x_vret, x_max, x_min, x_copy, x_i2l, qg_none, qg_inl, qg_inr, qg_ite, xr1, xr0, xrE, xri, xl0, xl1, xl2, xl3, xl4, xl5, xl6, xl7, xl8, xl9, xl10, xs0, xs1, xs2, xs3, xs4, xs5, xs6, xs7, xs8, xs9, xs10, xi0, xi1, xi2, xi3, xi4, xi5, xi6, xi7, xi8, xi9, xi10, xc0, xc1, xc2, xc3, xc4, xc5, xc6, xc7, xv1, xv2, xv3, xv4, xv5, xv6, xv7, dT_le, dF_le, dT_lt, dF_lt, dT_eq, dF_eq, qa_up_hit, qa_up_no, k77, k79, r2, rg1, x_switch, zsw, e']
    all_goals
      unfold f_X12_count
      refine qa_fn_eq ?_ (by simp)
      simp (disch := omega) [ev_X12_count_0, ev_X12_count_1, ev_X12_count_2, ev_X12_count_3, ev_X12_count_4, ev_X12_count_5, ev_X12_count_6, ev_X12_count_7, ev_X12_count_8, ev_X12_count_9, ev_X12_count_10, ev_X12_count_11, ev_X12_count_12, ev_X12_count_13, ev_X12_count_14, B_X12_count_0, B_X12_count_1, B_X12_count_2, B_X12_count_3, B_X12_count_4, B_X12_count_5, B_X12_count_6, B_X12_count_7, B_X12_count_8, B_X12_count_9, B_X12_count_10, B_X12_count_11, B_X12_count_12, B_X12_count_13, B_X12_count_14, x_const, x_iadd, x_isub, x_imul, x_idiv, x_irem, x_ineg, x_dup, x_dup_x1, x_dup2, x_pop, x_goto, x_ifeq, x_ifne, x_iflt, x_ifge, x_ifgt, x_ifle, x_cmpeq, x_cmpne, x_cmplt, x_cmpge, x_cmpgt, x_cmple, x_null, x_nonnull, x_acmpeq, x_acmpne, x_get, x_put, x_putz, x_ald, x_ast, x_bast, x_zast, x_aast, x_alen, x_obj, x_ret, x_retz, x_vret, x_max, x_min, x_copy, x_i2l, qg_none, qg_inl, qg_inr, qg_ite, xr1, xr0, xrE, xri, xl0, xl1, xl2, xl3, xl4, xl5, xl6, xl7, xl8, xl9, xl10, xs0, xs1, xs2, xs3, xs4, xs5, xs6, xs7, xs8, xs9, xs10, xi0, xi1, xi2, xi3, xi4, xi5, xi6, xi7, xi8, xi9, xi10, xc0, xc1, xc2, xc3, xc4, xc5, xc6, xc7, xv1, xv2, xv3, xv4, xv5, xv6, xv7, dT_le, dF_le, dT_lt, dF_lt, dT_eq, dF_eq, qa_up_hit, qa_up_no, k77, k79, r2, rg1, x_switch, zsw, g0, g1, e1, e2, e3, hu, hi, vCount]
  · rw [if_neg h1] at rg1
    rw [zA1_1 h1, mAns_e]
    unfold f_X12_count
    refine qa_fn_eq ?_ (by simp)
    simp (disch := omega) [ev_X12_count_0, ev_X12_count_1, ev_X12_count_2, ev_X12_count_3, ev_X12_count_4, ev_X12_count_5, ev_X12_count_6, ev_X12_count_7, ev_X12_count_8, ev_X12_count_9, ev_X12_count_10, ev_X12_count_11, ev_X12_count_12, ev_X12_count_13, ev_X12_count_14, B_X12_count_0, B_X12_count_1, B_X12_count_2, B_X12_count_3, B_X12_count_4, B_X12_count_5, B_X12_count_6, B_X12_count_7, B_X12_count_8, B_X12_count_9, B_X12_count_10, B_X12_count_11, B_X12_count_12, B_X12_count_13, B_X12_count_14, x_const, x_iadd, x_isub, x_imul, x_idiv, x_irem, x_ineg, x_dup, x_dup_x1, x_dup2, x_pop, x_goto, x_ifeq, x_ifne, x_iflt, x_ifge, x_ifgt, x_ifle, x_cmpeq, x_cmpne, x_cmplt, x_cmpge, x_cmpgt, x_cmple, x_null, x_nonnull, x_acmpeq, x_acmpne, x_get, x_put, x_putz, x_ald, x_ast, x_bast, x_zast, x_aast, x_alen, x_obj, x_ret, x_retz, x_vret, x_max, x_min, x_copy, x_i2l, qg_none, qg_inl, qg_inr, qg_ite, xr1, xr0, xrE, xri, xl0, xl1, xl2, xl3, xl4, xl5, xl6, xl7, xl8, xl9, xl10, xs0, xs1, xs2, xs3, xs4, xs5, xs6, xs7, xs8, xs9, xs10, xi0, xi1, xi2, xi3, xi4, xi5, xi6, xi7, xi8, xi9, xi10, xc0, xc1, xc2, xc3, xc4, xc5, xc6, xc7, xv1, xv2, xv3, xv4, xv5, xv6, xv7, dT_le, dF_le, dT_lt, dF_lt, dT_eq, dF_eq, qa_up_hit, qa_up_no, hK.1, rg1, x_switch, zsw]
