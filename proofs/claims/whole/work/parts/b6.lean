def LPub (f : List qV → qA → Option qR) (args : List qV) (N N' : Int) (g g' : zG) (code ans : Int) : Prop := ∀ m kd n c s, CI N g m kd n c s → kd 91 = (105, 1) → ∃ m' kd' n' c' s', f args (m, kd, n, c, s) = some (.inl (some (0, code)), (m', kd', n', c', s')) ∧ CI N' g' m' kd' n' c' s' ∧ (∀ x, 77 ≤ x → x ≤ 92 → kd' x = kd x) ∧ (∀ x, 77 ≤ x → x ≤ 92 → x ≠ 91 → m' x = m x) ∧ (code = 0 → m' 91 0 = ans) ∧ n ≤ n' ∧ c ≤ c' ∧ s ≤ s'
def LPPub (N : Int) (g : zG) (f : List qV → qA → Option qR) (largs : List qV) (h : List qV → qA → Option qR) (margs : List qV) : Prop := ∃ g' N' code ans, GI N' g' ∧ N ≤ N' ∧ zpt N' g' ≤ zpt N g + 4 ∧ (0 ≤ code ∧ code ≤ 2) ∧ LPub f largs N N' g g' code ans ∧ MPub h margs N N' g g' 0 code ans
theorem CI_91 {N : Int} {g : zG} {m : Int → Int → Int} {kd : Int → Nat × Int} {n c s : Nat} (h : CI N g m kd n c s) (i v : Int) : CI N g (qa_up m 91 i v) kd n c s := CI_m h (fun x hx => by
  funext j
  exact qa_up_no _ (by omega))
theorem CI_92 {N : Int} {g : zG} {m : Int → Int → Int} {kd : Int → Nat × Int} {n c s : Nat} (h : CI N g m kd n c s) (i v : Int) : CI N g (qa_up m 92 i v) kd n c s := CI_m h (fun x hx => by
  funext j
  exact qa_up_no _ (by omega))
theorem l_appendText0 {m m' : Int → Int → Int} {kd kd' : Int → Nat × Int} {w w' : Nat × Nat × Nat} {a v : Int} (x0 : kd 0 = (14, 0)) (k91 : kd' 91 = (105, 1)) (call : f_X11_appendText [(1, 0), (0, a)] (m, kd, w) = some (.inl (some (0, v)), (m', kd', w'))) : qa_ev P_L_appendText 0 [(1, 0), (0, a), (1, 91), (9, 0)] [] (m, kd, w) = some (.inl (some (0, 0)), (qa_up m' 91 0 v, kd', w')) := by
  simp (disch := omega) [ev_L_appendText_0, ev_L_appendText_1, ev_L_appendText_2, B_L_appendText_0, B_L_appendText_1, B_L_appendText_2, x_const, x_iadd, x_isub, x_imul, x_idiv, x_irem, x_ineg, x_dup, x_dup_x1, x_dup2, x_pop, x_goto, x_ifeq, x_ifne, x_iflt, x_ifge, x_ifgt, x_ifle, x_cmpeq, x_cmpne, x_cmplt, x_cmpge, x_cmpgt, x_cmple, x_null, x_nonnull, x_acmpeq, x_acmpne, x_get, x_put, x_putz, x_ald, x_ast, x_bast, x_zast, x_aast, x_alen, x_obj, x_ret, x_retz, x_vret, x_max, x_min, x_copy, x_i2l, qg_none, qg_inl, qg_inr, qg_ite, xr1, xr0, xrE, xri, xl0, xl1, xl2, xl3, xl4, xl5, xl6, xl7, xl8, xl9, xl10, xs0, xs1, xs2, xs3, xs4, xs5, xs6, xs7, xs8, xs9, xs10, xi0, xi1, xi2, xi3, xi4, xi5, xi6, xi7, xi8, xi9, xi10, xc0, xc1, xc2, xc3, xc4, xc5, xc6, xc7, xv1, xv2, xv3, xv4, xv5, xv6, xv7, dT_le, dF_le, dT_lt, dF_lt, xhr1, xhrE1, qa_free, xh2, x0, k91, call]
theorem l_appendTextE3 {m m' : Int → Int → Int} {kd kd' : Int → Nat × Int} {w w' : Nat × Nat × Nat} {a : Int} (x0 : kd 0 = (14, 0)) (call : f_X11_appendText [(1, 0), (0, a)] (m, kd, w) = some (.inr 3, (m', kd', w'))) : qa_ev P_L_appendText 0 [(1, 0), (0, a), (1, 91), (9, 0)] [] (m, kd, w) = some (.inl (some (0, 1)), (m', kd', w')) := by
  simp (disch := omega) [ev_L_appendText_0, ev_L_appendText_1, ev_L_appendText_2, B_L_appendText_0, B_L_appendText_1, B_L_appendText_2, x_const, x_iadd, x_isub, x_imul, x_idiv, x_irem, x_ineg, x_dup, x_dup_x1, x_dup2, x_pop, x_goto, x_ifeq, x_ifne, x_iflt, x_ifge, x_ifgt, x_ifle, x_cmpeq, x_cmpne, x_cmplt, x_cmpge, x_cmpgt, x_cmple, x_null, x_nonnull, x_acmpeq, x_acmpne, x_get, x_put, x_putz, x_ald, x_ast, x_bast, x_zast, x_aast, x_alen, x_obj, x_ret, x_retz, x_vret, x_max, x_min, x_copy, x_i2l, qg_none, qg_inl, qg_inr, qg_ite, xr1, xr0, xrE, xri, xl0, xl1, xl2, xl3, xl4, xl5, xl6, xl7, xl8, xl9, xl10, xs0, xs1, xs2, xs3, xs4, xs5, xs6, xs7, xs8, xs9, xs10, xi0, xi1, xi2, xi3, xi4, xi5, xi6, xi7, xi8, xi9, xi10, xc0, xc1, xc2, xc3, xc4, xc5, xc6, xc7, xv1, xv2, xv3, xv4, xv5, xv6, xv7, dT_le, dF_le, dT_lt, dF_lt, qa_free, xh2, xhrE1, x0, call]
  rfl
theorem lp_appendText {N : Int} {g : zG} {a : Int} (h : PPub N g f_X11_appendText [(1, 0), (0, a)] f_X12_appendText [(1, 77), (0, a)] [(3, 1)]) : LPPub N g f_L_appendText [(1, 0), (0, a), (1, 91)] f_X12_appendText [(1, 77), (0, a)] := by
  obtain ⟨g', N', e, code, ans, h1, h2, h3, h4, C, M⟩ := h
  have hc : 0 ≤ code ∧ code ≤ 2 := by
    rcases h4 with ⟨_, z⟩ | ⟨_, hm⟩
    · omega
    · simp at hm
      omega
  refine ⟨g', N', code, ans, h1, h2, h3, hc, fun m kd n c s i k91 => ?_, M⟩
  obtain ⟨m', kd', n', c', s', e1, i1, i2, i3, i4, i5⟩ := C m kd n c s i
  have x0 := i.q.2.2.1
  have k91' : kd' 91 = (105, 1) := by rw [(i2 91 (by decide) (by decide)).2]; exact k91
  rcases h4 with ⟨z1, z2⟩ | ⟨h0, hm⟩
  · rw [if_pos z1] at e1
    rw [z2]
    exact ⟨qa_up m' 91 0 ans, kd', n', c', s', qa_fn_eq (l_appendText0 x0 k91' e1) (by simp; omega), CI_91 i1 0 ans, fun x a b => (i2 x a b).2, fun x a b c => by
      rw [← (i2 x a b).1]
      funext j
      exact qa_up_no _ (fun z => c z.1), fun _ => qa_up_hit _ _ _ _, i3, i4, i5⟩
  · rw [if_neg h0] at e1
    simp at hm
    obtain ⟨z1, z2⟩ := hm
    rw [z1] at e1
    rw [z2]
    exact ⟨m', kd', n', c', s', qa_fn_eq (l_appendTextE3 x0 e1) (by simp; omega), i1, fun x a b => (i2 x a b).2, fun x a b _ => (i2 x a b).1, fun z => absurd z (by decide), i3, i4, i5⟩
theorem l_truncateText0 {m m' : Int → Int → Int} {kd kd' : Int → Nat × Int} {w w' : Nat × Nat × Nat} {a v : Int} (x0 : kd 0 = (14, 0)) (k91 : kd' 91 = (105, 1)) (call : f_X11_truncateText [(1, 0), (0, a)] (m, kd, w) = some (.inl (some (0, v)), (m', kd', w'))) : qa_ev P_L_truncateText 0 [(1, 0), (0, a), (1, 91), (9, 0)] [] (m, kd, w) = some (.inl (some (0, 0)), (qa_up m' 91 0 v, kd', w')) := by
  simp (disch := omega) [ev_L_truncateText_0, ev_L_truncateText_1, ev_L_truncateText_2, B_L_truncateText_0, B_L_truncateText_1, B_L_truncateText_2, x_const, x_iadd, x_isub, x_imul, x_idiv, x_irem, x_ineg, x_dup, x_dup_x1, x_dup2, x_pop, x_goto, x_ifeq, x_ifne, x_iflt, x_ifge, x_ifgt, x_ifle, x_cmpeq, x_cmpne, x_cmplt, x_cmpge, x_cmpgt, x_cmple, x_null, x_nonnull, x_acmpeq, x_acmpne, x_get, x_put, x_putz, x_ald, x_ast, x_bast, x_zast, x_aast, x_alen, x_obj, x_ret, x_retz, x_vret, x_max, x_min, x_copy, x_i2l, qg_none, qg_inl, qg_inr, qg_ite, xr1, xr0, xrE, xri, xl0, xl1, xl2, xl3, xl4, xl5, xl6, xl7, xl8, xl9, xl10, xs0, xs1, xs2, xs3, xs4, xs5, xs6, xs7, xs8, xs9, xs10, xi0, xi1, xi2, xi3, xi4, xi5, xi6, xi7, xi8, xi9, xi10, xc0, xc1, xc2, xc3, xc4, xc5, xc6, xc7, xv1, xv2, xv3, xv4, xv5, xv6, xv7, dT_le, dF_le, dT_lt, dF_lt, xhr1, xhrE1, qa_free, xh2, x0, k91, call]
theorem l_truncateTextE2 {m m' : Int → Int → Int} {kd kd' : Int → Nat × Int} {w w' : Nat × Nat × Nat} {a : Int} (x0 : kd 0 = (14, 0)) (call : f_X11_truncateText [(1, 0), (0, a)] (m, kd, w) = some (.inr 2, (m', kd', w'))) : qa_ev P_L_truncateText 0 [(1, 0), (0, a), (1, 91), (9, 0)] [] (m, kd, w) = some (.inl (some (0, 1)), (m', kd', w')) := by
  simp (disch := omega) [ev_L_truncateText_0, ev_L_truncateText_1, ev_L_truncateText_2, B_L_truncateText_0, B_L_truncateText_1, B_L_truncateText_2, x_const, x_iadd, x_isub, x_imul, x_idiv, x_irem, x_ineg, x_dup, x_dup_x1, x_dup2, x_pop, x_goto, x_ifeq, x_ifne, x_iflt, x_ifge, x_ifgt, x_ifle, x_cmpeq, x_cmpne, x_cmplt, x_cmpge, x_cmpgt, x_cmple, x_null, x_nonnull, x_acmpeq, x_acmpne, x_get, x_put, x_putz, x_ald, x_ast, x_bast, x_zast, x_aast, x_alen, x_obj, x_ret, x_retz, x_vret, x_max, x_min, x_copy, x_i2l, qg_none, qg_inl, qg_inr, qg_ite, xr1, xr0, xrE, xri, xl0, xl1, xl2, xl3, xl4, xl5, xl6, xl7, xl8, xl9, xl10, xs0, xs1, xs2, xs3, xs4, xs5, xs6, xs7, xs8, xs9, xs10, xi0, xi1, xi2, xi3, xi4, xi5, xi6, xi7, xi8, xi9, xi10, xc0, xc1, xc2, xc3, xc4, xc5, xc6, xc7, xv1, xv2, xv3, xv4, xv5, xv6, xv7, dT_le, dF_le, dT_lt, dF_lt, qa_free, xh2, xhrE1, x0, call]
  rfl
theorem lp_truncateText {N : Int} {g : zG} {a : Int} (h : PPub N g f_X11_truncateText [(1, 0), (0, a)] f_X12_truncateText [(1, 77), (0, a)] [(2, 1)]) : LPPub N g f_L_truncateText [(1, 0), (0, a), (1, 91)] f_X12_truncateText [(1, 77), (0, a)] := by
  obtain ⟨g', N', e, code, ans, h1, h2, h3, h4, C, M⟩ := h
  have hc : 0 ≤ code ∧ code ≤ 2 := by
    rcases h4 with ⟨_, z⟩ | ⟨_, hm⟩
    · omega
    · simp at hm
      omega
  refine ⟨g', N', code, ans, h1, h2, h3, hc, fun m kd n c s i k91 => ?_, M⟩
  obtain ⟨m', kd', n', c', s', e1, i1, i2, i3, i4, i5⟩ := C m kd n c s i
  have x0 := i.q.2.2.1
  have k91' : kd' 91 = (105, 1) := by rw [(i2 91 (by decide) (by decide)).2]; exact k91
  rcases h4 with ⟨z1, z2⟩ | ⟨h0, hm⟩
  · rw [if_pos z1] at e1
    rw [z2]
    exact ⟨qa_up m' 91 0 ans, kd', n', c', s', qa_fn_eq (l_truncateText0 x0 k91' e1) (by simp; omega), CI_91 i1 0 ans, fun x a b => (i2 x a b).2, fun x a b c => by
      rw [← (i2 x a b).1]
      funext j
      exact qa_up_no _ (fun z => c z.1), fun _ => qa_up_hit _ _ _ _, i3, i4, i5⟩
  · rw [if_neg h0] at e1
    simp at hm
    obtain ⟨z1, z2⟩ := hm
    rw [z1] at e1
    rw [z2]
    exact ⟨m', kd', n', c', s', qa_fn_eq (l_truncateTextE2 x0 e1) (by simp; omega), i1, fun x a b => (i2 x a b).2, fun x a b _ => (i2 x a b).1, fun z => absurd z (by decide), i3, i4, i5⟩
theorem l_set0 {m m' : Int → Int → Int} {kd kd' : Int → Nat × Int} {w w' : Nat × Nat × Nat} {a b v : Int} (x0 : kd 0 = (14, 0)) (k91 : kd' 91 = (105, 1)) (call : f_X11_set [(1, 0), (0, a), (0, b)] (m, kd, w) = some (.inl (some (0, v)), (m', kd', w'))) : qa_ev P_L_set 0 [(1, 0), (0, a), (0, b), (1, 91), (9, 0)] [] (m, kd, w) = some (.inl (some (0, 0)), (qa_up m' 91 0 v, kd', w')) := by
  simp (disch := omega) [ev_L_set_0, ev_L_set_1, ev_L_set_2, B_L_set_0, B_L_set_1, B_L_set_2, x_const, x_iadd, x_isub, x_imul, x_idiv, x_irem, x_ineg, x_dup, x_dup_x1, x_dup2, x_pop, x_goto, x_ifeq, x_ifne, x_iflt, x_ifge, x_ifgt, x_ifle, x_cmpeq, x_cmpne, x_cmplt, x_cmpge, x_cmpgt, x_cmple, x_null, x_nonnull, x_acmpeq, x_acmpne, x_get, x_put, x_putz, x_ald, x_ast, x_bast, x_zast, x_aast, x_alen, x_obj, x_ret, x_retz, x_vret, x_max, x_min, x_copy, x_i2l, qg_none, qg_inl, qg_inr, qg_ite, xr1, xr0, xrE, xri, xl0, xl1, xl2, xl3, xl4, xl5, xl6, xl7, xl8, xl9, xl10, xs0, xs1, xs2, xs3, xs4, xs5, xs6, xs7, xs8, xs9, xs10, xi0, xi1, xi2, xi3, xi4, xi5, xi6, xi7, xi8, xi9, xi10, xc0, xc1, xc2, xc3, xc4, xc5, xc6, xc7, xv1, xv2, xv3, xv4, xv5, xv6, xv7, dT_le, dF_le, dT_lt, dF_lt, xhr1, xhrE1, qa_free, xh3, x0, k91, call]
theorem l_setE2 {m m' : Int → Int → Int} {kd kd' : Int → Nat × Int} {w w' : Nat × Nat × Nat} {a b : Int} (x0 : kd 0 = (14, 0)) (call : f_X11_set [(1, 0), (0, a), (0, b)] (m, kd, w) = some (.inr 2, (m', kd', w'))) : qa_ev P_L_set 0 [(1, 0), (0, a), (0, b), (1, 91), (9, 0)] [] (m, kd, w) = some (.inl (some (0, 1)), (m', kd', w')) := by
  simp (disch := omega) [ev_L_set_0, ev_L_set_1, ev_L_set_2, B_L_set_0, B_L_set_1, B_L_set_2, x_const, x_iadd, x_isub, x_imul, x_idiv, x_irem, x_ineg, x_dup, x_dup_x1, x_dup2, x_pop, x_goto, x_ifeq, x_ifne, x_iflt, x_ifge, x_ifgt, x_ifle, x_cmpeq, x_cmpne, x_cmplt, x_cmpge, x_cmpgt, x_cmple, x_null, x_nonnull, x_acmpeq, x_acmpne, x_get, x_put, x_putz, x_ald, x_ast, x_bast, x_zast, x_aast, x_alen, x_obj, x_ret, x_retz, x_vret, x_max, x_min, x_copy, x_i2l, qg_none, qg_inl, qg_inr, qg_ite, xr1, xr0, xrE, xri, xl0, xl1, xl2, xl3, xl4, xl5, xl6, xl7, xl8, xl9, xl10, xs0, xs1, xs2, xs3, xs4, xs5, xs6, xs7, xs8, xs9, xs10, xi0, xi1, xi2, xi3, xi4, xi5, xi6, xi7, xi8, xi9, xi10, xc0, xc1, xc2, xc3, xc4, xc5, xc6, xc7, xv1, xv2, xv3, xv4, xv5, xv6, xv7, dT_le, dF_le, dT_lt, dF_lt, qa_free, xh3, xhrE1, x0, call]
  rfl
theorem lp_set {N : Int} {g : zG} {a b : Int} (h : PPub N g f_X11_set [(1, 0), (0, a), (0, b)] f_X12_set [(1, 77), (0, a), (0, b)] [(2, 1)]) : LPPub N g f_L_set [(1, 0), (0, a), (0, b), (1, 91)] f_X12_set [(1, 77), (0, a), (0, b)] := by
  obtain ⟨g', N', e, code, ans, h1, h2, h3, h4, C, M⟩ := h
  have hc : 0 ≤ code ∧ code ≤ 2 := by
    rcases h4 with ⟨_, z⟩ | ⟨_, hm⟩
    · omega
    · simp at hm
      omega
  refine ⟨g', N', code, ans, h1, h2, h3, hc, fun m kd n c s i k91 => ?_, M⟩
  obtain ⟨m', kd', n', c', s', e1, i1, i2, i3, i4, i5⟩ := C m kd n c s i
  have x0 := i.q.2.2.1
  have k91' : kd' 91 = (105, 1) := by rw [(i2 91 (by decide) (by decide)).2]; exact k91
  rcases h4 with ⟨z1, z2⟩ | ⟨h0, hm⟩
  · rw [if_pos z1] at e1
    rw [z2]
    exact ⟨qa_up m' 91 0 ans, kd', n', c', s', qa_fn_eq (l_set0 x0 k91' e1) (by simp; omega), CI_91 i1 0 ans, fun x a b => (i2 x a b).2, fun x a b c => by
      rw [← (i2 x a b).1]
      funext j
      exact qa_up_no _ (fun z => c z.1), fun _ => qa_up_hit _ _ _ _, i3, i4, i5⟩
  · rw [if_neg h0] at e1
    simp at hm
    obtain ⟨z1, z2⟩ := hm
    rw [z1] at e1
    rw [z2]
    exact ⟨m', kd', n', c', s', qa_fn_eq (l_setE2 x0 e1) (by simp; omega), i1, fun x a b => (i2 x a b).2, fun x a b _ => (i2 x a b).1, fun z => absurd z (by decide), i3, i4, i5⟩
theorem l_count0 {m m' : Int → Int → Int} {kd kd' : Int → Nat × Int} {w w' : Nat × Nat × Nat} {a v : Int} (x0 : kd 0 = (14, 0)) (k91 : kd' 91 = (105, 1)) (call : f_X11_count [(1, 0), (0, a)] (m, kd, w) = some (.inl (some (0, v)), (m', kd', w'))) : qa_ev P_L_count 0 [(1, 0), (0, a), (1, 91), (9, 0)] [] (m, kd, w) = some (.inl (some (0, 0)), (qa_up m' 91 0 v, kd', w')) := by
  simp (disch := omega) [ev_L_count_0, ev_L_count_1, ev_L_count_2, B_L_count_0, B_L_count_1, B_L_count_2, x_const, x_iadd, x_isub, x_imul, x_idiv, x_irem, x_ineg, x_dup, x_dup_x1, x_dup2, x_pop, x_goto, x_ifeq, x_ifne, x_iflt, x_ifge, x_ifgt, x_ifle, x_cmpeq, x_cmpne, x_cmplt, x_cmpge, x_cmpgt, x_cmple, x_null, x_nonnull, x_acmpeq, x_acmpne, x_get, x_put, x_putz, x_ald, x_ast, x_bast, x_zast, x_aast, x_alen, x_obj, x_ret, x_retz, x_vret, x_max, x_min, x_copy, x_i2l, qg_none, qg_inl, qg_inr, qg_ite, xr1, xr0, xrE, xri, xl0, xl1, xl2, xl3, xl4, xl5, xl6, xl7, xl8, xl9, xl10, xs0, xs1, xs2, xs3, xs4, xs5, xs6, xs7, xs8, xs9, xs10, xi0, xi1, xi2, xi3, xi4, xi5, xi6, xi7, xi8, xi9, xi10, xc0, xc1, xc2, xc3, xc4, xc5, xc6, xc7, xv1, xv2, xv3, xv4, xv5, xv6, xv7, dT_le, dF_le, dT_lt, dF_lt, xhr1, xhrE1, qa_free, xh2, x0, k91, call]
theorem l_countE2 {m m' : Int → Int → Int} {kd kd' : Int → Nat × Int} {w w' : Nat × Nat × Nat} {a : Int} (x0 : kd 0 = (14, 0)) (call : f_X11_count [(1, 0), (0, a)] (m, kd, w) = some (.inr 2, (m', kd', w'))) : qa_ev P_L_count 0 [(1, 0), (0, a), (1, 91), (9, 0)] [] (m, kd, w) = some (.inl (some (0, 1)), (m', kd', w')) := by
  simp (disch := omega) [ev_L_count_0, ev_L_count_1, ev_L_count_2, B_L_count_0, B_L_count_1, B_L_count_2, x_const, x_iadd, x_isub, x_imul, x_idiv, x_irem, x_ineg, x_dup, x_dup_x1, x_dup2, x_pop, x_goto, x_ifeq, x_ifne, x_iflt, x_ifge, x_ifgt, x_ifle, x_cmpeq, x_cmpne, x_cmplt, x_cmpge, x_cmpgt, x_cmple, x_null, x_nonnull, x_acmpeq, x_acmpne, x_get, x_put, x_putz, x_ald, x_ast, x_bast, x_zast, x_aast, x_alen, x_obj, x_ret, x_retz, x_vret, x_max, x_min, x_copy, x_i2l, qg_none, qg_inl, qg_inr, qg_ite, xr1, xr0, xrE, xri, xl0, xl1, xl2, xl3, xl4, xl5, xl6, xl7, xl8, xl9, xl10, xs0, xs1, xs2, xs3, xs4, xs5, xs6, xs7, xs8, xs9, xs10, xi0, xi1, xi2, xi3, xi4, xi5, xi6, xi7, xi8, xi9, xi10, xc0, xc1, xc2, xc3, xc4, xc5, xc6, xc7, xv1, xv2, xv3, xv4, xv5, xv6, xv7, dT_le, dF_le, dT_lt, dF_lt, qa_free, xh2, xhrE1, x0, call]
  rfl
theorem lp_count {N : Int} {g : zG} {a : Int} (h : PPub N g f_X11_count [(1, 0), (0, a)] f_X12_count [(1, 77), (0, a)] [(2, 1)]) : LPPub N g f_L_count [(1, 0), (0, a), (1, 91)] f_X12_count [(1, 77), (0, a)] := by
  obtain ⟨g', N', e, code, ans, h1, h2, h3, h4, C, M⟩ := h
  have hc : 0 ≤ code ∧ code ≤ 2 := by
    rcases h4 with ⟨_, z⟩ | ⟨_, hm⟩
    · omega
    · simp at hm
      omega
  refine ⟨g', N', code, ans, h1, h2, h3, hc, fun m kd n c s i k91 => ?_, M⟩
  obtain ⟨m', kd', n', c', s', e1, i1, i2, i3, i4, i5⟩ := C m kd n c s i
  have x0 := i.q.2.2.1
  have k91' : kd' 91 = (105, 1) := by rw [(i2 91 (by decide) (by decide)).2]; exact k91
  rcases h4 with ⟨z1, z2⟩ | ⟨h0, hm⟩
  · rw [if_pos z1] at e1
    rw [z2]
    exact ⟨qa_up m' 91 0 ans, kd', n', c', s', qa_fn_eq (l_count0 x0 k91' e1) (by simp; omega), CI_91 i1 0 ans, fun x a b => (i2 x a b).2, fun x a b c => by
      rw [← (i2 x a b).1]
      funext j
      exact qa_up_no _ (fun z => c z.1), fun _ => qa_up_hit _ _ _ _, i3, i4, i5⟩
  · rw [if_neg h0] at e1
    simp at hm
    obtain ⟨z1, z2⟩ := hm
    rw [z1] at e1
    rw [z2]
    exact ⟨m', kd', n', c', s', qa_fn_eq (l_countE2 x0 e1) (by simp; omega), i1, fun x a b => (i2 x a b).2, fun x a b _ => (i2 x a b).1, fun z => absurd z (by decide), i3, i4, i5⟩
theorem l_branch0 {m m' : Int → Int → Int} {kd kd' : Int → Nat × Int} {w w' : Nat × Nat × Nat} {a b v : Int} (x0 : kd 0 = (14, 0)) (k91 : kd' 91 = (105, 1)) (call : f_X11_branch [(1, 0), (0, a), (0, b)] (m, kd, w) = some (.inl (some (0, v)), (m', kd', w'))) : qa_ev P_L_branch 0 [(1, 0), (0, a), (0, b), (1, 91), (9, 0)] [] (m, kd, w) = some (.inl (some (0, 0)), (qa_up m' 91 0 v, kd', w')) := by
  simp (disch := omega) [ev_L_branch_0, ev_L_branch_1, ev_L_branch_2, ev_L_branch_3, B_L_branch_0, B_L_branch_1, B_L_branch_2, B_L_branch_3, x_const, x_iadd, x_isub, x_imul, x_idiv, x_irem, x_ineg, x_dup, x_dup_x1, x_dup2, x_pop, x_goto, x_ifeq, x_ifne, x_iflt, x_ifge, x_ifgt, x_ifle, x_cmpeq, x_cmpne, x_cmplt, x_cmpge, x_cmpgt, x_cmple, x_null, x_nonnull, x_acmpeq, x_acmpne, x_get, x_put, x_putz, x_ald, x_ast, x_bast, x_zast, x_aast, x_alen, x_obj, x_ret, x_retz, x_vret, x_max, x_min, x_copy, x_i2l, qg_none, qg_inl, qg_inr, qg_ite, xr1, xr0, xrE, xri, xl0, xl1, xl2, xl3, xl4, xl5, xl6, xl7, xl8, xl9, xl10, xs0, xs1, xs2, xs3, xs4, xs5, xs6, xs7, xs8, xs9, xs10, xi0, xi1, xi2, xi3, xi4, xi5, xi6, xi7, xi8, xi9, xi10, xc0, xc1, xc2, xc3, xc4, xc5, xc6, xc7, xv1, xv2, xv3, xv4, xv5, xv6, xv7, dT_le, dF_le, dT_lt, dF_lt, xhr1, xhrE1, qa_free, xh3, x0, k91, call]
theorem l_branchE1 {m m' : Int → Int → Int} {kd kd' : Int → Nat × Int} {w w' : Nat × Nat × Nat} {a b : Int} (x0 : kd 0 = (14, 0)) (call : f_X11_branch [(1, 0), (0, a), (0, b)] (m, kd, w) = some (.inr 1, (m', kd', w'))) : qa_ev P_L_branch 0 [(1, 0), (0, a), (0, b), (1, 91), (9, 0)] [] (m, kd, w) = some (.inl (some (0, 1)), (m', kd', w')) := by
  simp (disch := omega) [ev_L_branch_0, ev_L_branch_1, ev_L_branch_2, ev_L_branch_3, B_L_branch_0, B_L_branch_1, B_L_branch_2, B_L_branch_3, x_const, x_iadd, x_isub, x_imul, x_idiv, x_irem, x_ineg, x_dup, x_dup_x1, x_dup2, x_pop, x_goto, x_ifeq, x_ifne, x_iflt, x_ifge, x_ifgt, x_ifle, x_cmpeq, x_cmpne, x_cmplt, x_cmpge, x_cmpgt, x_cmple, x_null, x_nonnull, x_acmpeq, x_acmpne, x_get, x_put, x_putz, x_ald, x_ast, x_bast, x_zast, x_aast, x_alen, x_obj, x_ret, x_retz, x_vret, x_max, x_min, x_copy, x_i2l, qg_none, qg_inl, qg_inr, qg_ite, xr1, xr0, xrE, xri, xl0, xl1, xl2, xl3, xl4, xl5, xl6, xl7, xl8, xl9, xl10, xs0, xs1, xs2, xs3, xs4, xs5, xs6, xs7, xs8, xs9, xs10, xi0, xi1, xi2, xi3, xi4, xi5, xi6, xi7, xi8, xi9, xi10, xc0, xc1, xc2, xc3, xc4, xc5, xc6, xc7, xv1, xv2, xv3, xv4, xv5, xv6, xv7, dT_le, dF_le, dT_lt, dF_lt, qa_free, xh3, xhrE1, x0, call]
  rfl
theorem l_branchE2 {m m' : Int → Int → Int} {kd kd' : Int → Nat × Int} {w w' : Nat × Nat × Nat} {a b : Int} (x0 : kd 0 = (14, 0)) (call : f_X11_branch [(1, 0), (0, a), (0, b)] (m, kd, w) = some (.inr 2, (m', kd', w'))) : qa_ev P_L_branch 0 [(1, 0), (0, a), (0, b), (1, 91), (9, 0)] [] (m, kd, w) = some (.inl (some (0, 2)), (m', kd', w')) := by
  simp (disch := omega) [ev_L_branch_0, ev_L_branch_1, ev_L_branch_2, ev_L_branch_3, B_L_branch_0, B_L_branch_1, B_L_branch_2, B_L_branch_3, x_const, x_iadd, x_isub, x_imul, x_idiv, x_irem, x_ineg, x_dup, x_dup_x1, x_dup2, x_pop, x_goto, x_ifeq, x_ifne, x_iflt, x_ifge, x_ifgt, x_ifle, x_cmpeq, x_cmpne, x_cmplt, x_cmpge, x_cmpgt, x_cmple, x_null, x_nonnull, x_acmpeq, x_acmpne, x_get, x_put, x_putz, x_ald, x_ast, x_bast, x_zast, x_aast, x_alen, x_obj, x_ret, x_retz, x_vret, x_max, x_min, x_copy, x_i2l, qg_none, qg_inl, qg_inr, qg_ite, xr1, xr0, xrE, xri, xl0, xl1, xl2, xl3, xl4, xl5, xl6, xl7, xl8, xl9, xl10, xs0, xs1, xs2, xs3, xs4, xs5, xs6, xs7, xs8, xs9, xs10, xi0, xi1, xi2, xi3, xi4, xi5, xi6, xi7, xi8, xi9, xi10, xc0, xc1, xc2, xc3, xc4, xc5, xc6, xc7, xv1, xv2, xv3, xv4, xv5, xv6, xv7, dT_le, dF_le, dT_lt, dF_lt, qa_free, xh3, xhrE2 2 1 1 4 2 4 (by decide), x0, call]
  rfl
theorem lp_branch {N : Int} {g : zG} {a b : Int} (h : PPub N g f_X11_branch [(1, 0), (0, a), (0, b)] f_X12_branch [(1, 77), (0, a), (0, b)] [(1, 1), (2, 2)]) : LPPub N g f_L_branch [(1, 0), (0, a), (0, b), (1, 91)] f_X12_branch [(1, 77), (0, a), (0, b)] := by
  obtain ⟨g', N', e, code, ans, h1, h2, h3, h4, C, M⟩ := h
  have hc : 0 ≤ code ∧ code ≤ 2 := by
    rcases h4 with ⟨_, z⟩ | ⟨_, hm⟩
    · omega
    · simp at hm
      omega
  refine ⟨g', N', code, ans, h1, h2, h3, hc, fun m kd n c s i k91 => ?_, M⟩
  obtain ⟨m', kd', n', c', s', e1, i1, i2, i3, i4, i5⟩ := C m kd n c s i
  have x0 := i.q.2.2.1
  have k91' : kd' 91 = (105, 1) := by rw [(i2 91 (by decide) (by decide)).2]; exact k91
  rcases h4 with ⟨z1, z2⟩ | ⟨h0, hm⟩
  · rw [if_pos z1] at e1
    rw [z2]
    exact ⟨qa_up m' 91 0 ans, kd', n', c', s', qa_fn_eq (l_branch0 x0 k91' e1) (by simp; omega), CI_91 i1 0 ans, fun x a b => (i2 x a b).2, fun x a b c => by
      rw [← (i2 x a b).1]
      funext j
      exact qa_up_no _ (fun z => c z.1), fun _ => qa_up_hit _ _ _ _, i3, i4, i5⟩
  · rw [if_neg h0] at e1
    simp at hm
    rcases hm with hm | hm
    · obtain ⟨z1, z2⟩ := hm
      rw [z1] at e1
      rw [z2]
      exact ⟨m', kd', n', c', s', qa_fn_eq (l_branchE1 x0 e1) (by simp; omega), i1, fun x a b => (i2 x a b).2, fun x a b _ => (i2 x a b).1, fun z => absurd z (by decide), i3, i4, i5⟩
    · obtain ⟨z1, z2⟩ := hm
      rw [z1] at e1
      rw [z2]
      exact ⟨m', kd', n', c', s', qa_fn_eq (l_branchE2 x0 e1) (by simp; omega), i1, fun x a b => (i2 x a b).2, fun x a b _ => (i2 x a b).1, fun z => absurd z (by decide), i3, i4, i5⟩
theorem l_entry0 {m m' : Int → Int → Int} {kd kd' : Int → Nat × Int} {w w' : Nat × Nat × Nat} {a b c1 v : Int} (x0 : kd 0 = (14, 0)) (k91 : kd' 91 = (105, 1)) (call : f_X11_entry [(1, 0), (0, a), (0, b), (0, c1)] (m, kd, w) = some (.inl (some (0, v)), (m', kd', w'))) : qa_ev P_L_entry 0 [(1, 0), (0, a), (0, b), (0, c1), (1, 91), (9, 0)] [] (m, kd, w) = some (.inl (some (0, 0)), (qa_up m' 91 0 v, kd', w')) := by
  simp (disch := omega) [ev_L_entry_0, ev_L_entry_1, ev_L_entry_2, ev_L_entry_3, B_L_entry_0, B_L_entry_1, B_L_entry_2, B_L_entry_3, x_const, x_iadd, x_isub, x_imul, x_idiv, x_irem, x_ineg, x_dup, x_dup_x1, x_dup2, x_pop, x_goto, x_ifeq, x_ifne, x_iflt, x_ifge, x_ifgt, x_ifle, x_cmpeq, x_cmpne, x_cmplt, x_cmpge, x_cmpgt, x_cmple, x_null, x_nonnull, x_acmpeq, x_acmpne, x_get, x_put, x_putz, x_ald, x_ast, x_bast, x_zast, x_aast, x_alen, x_obj, x_ret, x_retz, x_vret, x_max, x_min, x_copy, x_i2l, qg_none, qg_inl, qg_inr, qg_ite, xr1, xr0, xrE, xri, xl0, xl1, xl2, xl3, xl4, xl5, xl6, xl7, xl8, xl9, xl10, xs0, xs1, xs2, xs3, xs4, xs5, xs6, xs7, xs8, xs9, xs10, xi0, xi1, xi2, xi3, xi4, xi5, xi6, xi7, xi8, xi9, xi10, xc0, xc1, xc2, xc3, xc4, xc5, xc6, xc7, xv1, xv2, xv3, xv4, xv5, xv6, xv7, dT_le, dF_le, dT_lt, dF_lt, xhr1, xhrE1, qa_free, xh4, x0, k91, call]
theorem l_entryE1 {m m' : Int → Int → Int} {kd kd' : Int → Nat × Int} {w w' : Nat × Nat × Nat} {a b c1 : Int} (x0 : kd 0 = (14, 0)) (call : f_X11_entry [(1, 0), (0, a), (0, b), (0, c1)] (m, kd, w) = some (.inr 1, (m', kd', w'))) : qa_ev P_L_entry 0 [(1, 0), (0, a), (0, b), (0, c1), (1, 91), (9, 0)] [] (m, kd, w) = some (.inl (some (0, 1)), (m', kd', w')) := by
  simp (disch := omega) [ev_L_entry_0, ev_L_entry_1, ev_L_entry_2, ev_L_entry_3, B_L_entry_0, B_L_entry_1, B_L_entry_2, B_L_entry_3, x_const, x_iadd, x_isub, x_imul, x_idiv, x_irem, x_ineg, x_dup, x_dup_x1, x_dup2, x_pop, x_goto, x_ifeq, x_ifne, x_iflt, x_ifge, x_ifgt, x_ifle, x_cmpeq, x_cmpne, x_cmplt, x_cmpge, x_cmpgt, x_cmple, x_null, x_nonnull, x_acmpeq, x_acmpne, x_get, x_put, x_putz, x_ald, x_ast, x_bast, x_zast, x_aast, x_alen, x_obj, x_ret, x_retz, x_vret, x_max, x_min, x_copy, x_i2l, qg_none, qg_inl, qg_inr, qg_ite, xr1, xr0, xrE, xri, xl0, xl1, xl2, xl3, xl4, xl5, xl6, xl7, xl8, xl9, xl10, xs0, xs1, xs2, xs3, xs4, xs5, xs6, xs7, xs8, xs9, xs10, xi0, xi1, xi2, xi3, xi4, xi5, xi6, xi7, xi8, xi9, xi10, xc0, xc1, xc2, xc3, xc4, xc5, xc6, xc7, xv1, xv2, xv3, xv4, xv5, xv6, xv7, dT_le, dF_le, dT_lt, dF_lt, qa_free, xh4, xhrE1, x0, call]
  rfl
theorem l_entryE2 {m m' : Int → Int → Int} {kd kd' : Int → Nat × Int} {w w' : Nat × Nat × Nat} {a b c1 : Int} (x0 : kd 0 = (14, 0)) (call : f_X11_entry [(1, 0), (0, a), (0, b), (0, c1)] (m, kd, w) = some (.inr 2, (m', kd', w'))) : qa_ev P_L_entry 0 [(1, 0), (0, a), (0, b), (0, c1), (1, 91), (9, 0)] [] (m, kd, w) = some (.inl (some (0, 2)), (m', kd', w')) := by
  simp (disch := omega) [ev_L_entry_0, ev_L_entry_1, ev_L_entry_2, ev_L_entry_3, B_L_entry_0, B_L_entry_1, B_L_entry_2, B_L_entry_3, x_const, x_iadd, x_isub, x_imul, x_idiv, x_irem, x_ineg, x_dup, x_dup_x1, x_dup2, x_pop, x_goto, x_ifeq, x_ifne, x_iflt, x_ifge, x_ifgt, x_ifle, x_cmpeq, x_cmpne, x_cmplt, x_cmpge, x_cmpgt, x_cmple, x_null, x_nonnull, x_acmpeq, x_acmpne, x_get, x_put, x_putz, x_ald, x_ast, x_bast, x_zast, x_aast, x_alen, x_obj, x_ret, x_retz, x_vret, x_max, x_min, x_copy, x_i2l, qg_none, qg_inl, qg_inr, qg_ite, xr1, xr0, xrE, xri, xl0, xl1, xl2, xl3, xl4, xl5, xl6, xl7, xl8, xl9, xl10, xs0, xs1, xs2, xs3, xs4, xs5, xs6, xs7, xs8, xs9, xs10, xi0, xi1, xi2, xi3, xi4, xi5, xi6, xi7, xi8, xi9, xi10, xc0, xc1, xc2, xc3, xc4, xc5, xc6, xc7, xv1, xv2, xv3, xv4, xv5, xv6, xv7, dT_le, dF_le, dT_lt, dF_lt, qa_free, xh4, xhrE2 2 1 1 5 2 5 (by decide), x0, call]
  rfl
theorem lp_entry {N : Int} {g : zG} {a b c1 : Int} (h : PPub N g f_X11_entry [(1, 0), (0, a), (0, b), (0, c1)] f_X12_entry [(1, 77), (0, a), (0, b), (0, c1)] [(1, 1), (2, 2)]) : LPPub N g f_L_entry [(1, 0), (0, a), (0, b), (0, c1), (1, 91)] f_X12_entry [(1, 77), (0, a), (0, b), (0, c1)] := by
  obtain ⟨g', N', e, code, ans, h1, h2, h3, h4, C, M⟩ := h
  have hc : 0 ≤ code ∧ code ≤ 2 := by
    rcases h4 with ⟨_, z⟩ | ⟨_, hm⟩
    · omega
    · simp at hm
      omega
  refine ⟨g', N', code, ans, h1, h2, h3, hc, fun m kd n c s i k91 => ?_, M⟩
  obtain ⟨m', kd', n', c', s', e1, i1, i2, i3, i4, i5⟩ := C m kd n c s i
  have x0 := i.q.2.2.1
  have k91' : kd' 91 = (105, 1) := by rw [(i2 91 (by decide) (by decide)).2]; exact k91
  rcases h4 with ⟨z1, z2⟩ | ⟨h0, hm⟩
  · rw [if_pos z1] at e1
    rw [z2]
    exact ⟨qa_up m' 91 0 ans, kd', n', c', s', qa_fn_eq (l_entry0 x0 k91' e1) (by simp; omega), CI_91 i1 0 ans, fun x a b => (i2 x a b).2, fun x a b c => by
      rw [← (i2 x a b).1]
      funext j
      exact qa_up_no _ (fun z => c z.1), fun _ => qa_up_hit _ _ _ _, i3, i4, i5⟩
  · rw [if_neg h0] at e1
    simp at hm
    rcases hm with hm | hm
    · obtain ⟨z1, z2⟩ := hm
      rw [z1] at e1
      rw [z2]
      exact ⟨m', kd', n', c', s', qa_fn_eq (l_entryE1 x0 e1) (by simp; omega), i1, fun x a b => (i2 x a b).2, fun x a b _ => (i2 x a b).1, fun z => absurd z (by decide), i3, i4, i5⟩
    · obtain ⟨z1, z2⟩ := hm
      rw [z1] at e1
      rw [z2]
      exact ⟨m', kd', n', c', s', qa_fn_eq (l_entryE2 x0 e1) (by simp; omega), i1, fun x a b => (i2 x a b).2, fun x a b _ => (i2 x a b).1, fun z => absurd z (by decide), i3, i4, i5⟩
theorem l_reader0 {m m' : Int → Int → Int} {kd kd' : Int → Nat × Int} {w w' : Nat × Nat × Nat} {a b v : Int} (x0 : kd 0 = (14, 0)) (k91 : kd' 91 = (105, 1)) (call : f_X11_reader [(1, 0), (0, a), (0, b)] (m, kd, w) = some (.inl (some (0, v)), (m', kd', w'))) : qa_ev P_L_reader 0 [(1, 0), (0, a), (0, b), (1, 91), (9, 0)] [] (m, kd, w) = some (.inl (some (0, 0)), (qa_up m' 91 0 v, kd', w')) := by
  simp (disch := omega) [ev_L_reader_0, ev_L_reader_1, ev_L_reader_2, ev_L_reader_3, B_L_reader_0, B_L_reader_1, B_L_reader_2, B_L_reader_3, x_const, x_iadd, x_isub, x_imul, x_idiv, x_irem, x_ineg, x_dup, x_dup_x1, x_dup2, x_pop, x_goto, x_ifeq, x_ifne, x_iflt, x_ifge, x_ifgt, x_ifle, x_cmpeq, x_cmpne, x_cmplt, x_cmpge, x_cmpgt, x_cmple, x_null, x_nonnull, x_acmpeq, x_acmpne, x_get, x_put, x_putz, x_ald, x_ast, x_bast, x_zast, x_aast, x_alen, x_obj, x_ret, x_retz, x_vret, x_max, x_min, x_copy, x_i2l, qg_none, qg_inl, qg_inr, qg_ite, xr1, xr0, xrE, xri, xl0, xl1, xl2, xl3, xl4, xl5, xl6, xl7, xl8, xl9, xl10, xs0, xs1, xs2, xs3, xs4, xs5, xs6, xs7, xs8, xs9, xs10, xi0, xi1, xi2, xi3, xi4, xi5, xi6, xi7, xi8, xi9, xi10, xc0, xc1, xc2, xc3, xc4, xc5, xc6, xc7, xv1, xv2, xv3, xv4, xv5, xv6, xv7, dT_le, dF_le, dT_lt, dF_lt, xhr1, xhrE1, qa_free, xh3, x0, k91, call]
theorem l_readerE1 {m m' : Int → Int → Int} {kd kd' : Int → Nat × Int} {w w' : Nat × Nat × Nat} {a b : Int} (x0 : kd 0 = (14, 0)) (call : f_X11_reader [(1, 0), (0, a), (0, b)] (m, kd, w) = some (.inr 1, (m', kd', w'))) : qa_ev P_L_reader 0 [(1, 0), (0, a), (0, b), (1, 91), (9, 0)] [] (m, kd, w) = some (.inl (some (0, 1)), (m', kd', w')) := by
  simp (disch := omega) [ev_L_reader_0, ev_L_reader_1, ev_L_reader_2, ev_L_reader_3, B_L_reader_0, B_L_reader_1, B_L_reader_2, B_L_reader_3, x_const, x_iadd, x_isub, x_imul, x_idiv, x_irem, x_ineg, x_dup, x_dup_x1, x_dup2, x_pop, x_goto, x_ifeq, x_ifne, x_iflt, x_ifge, x_ifgt, x_ifle, x_cmpeq, x_cmpne, x_cmplt, x_cmpge, x_cmpgt, x_cmple, x_null, x_nonnull, x_acmpeq, x_acmpne, x_get, x_put, x_putz, x_ald, x_ast, x_bast, x_zast, x_aast, x_alen, x_obj, x_ret, x_retz, x_vret, x_max, x_min, x_copy, x_i2l, qg_none, qg_inl, qg_inr, qg_ite, xr1, xr0, xrE, xri, xl0, xl1, xl2, xl3, xl4, xl5, xl6, xl7, xl8, xl9, xl10, xs0, xs1, xs2, xs3, xs4, xs5, xs6, xs7, xs8, xs9, xs10, xi0, xi1, xi2, xi3, xi4, xi5, xi6, xi7, xi8, xi9, xi10, xc0, xc1, xc2, xc3, xc4, xc5, xc6, xc7, xv1, xv2, xv3, xv4, xv5, xv6, xv7, dT_le, dF_le, dT_lt, dF_lt, qa_free, xh3, xhrE1, x0, call]
  rfl
theorem l_readerE2 {m m' : Int → Int → Int} {kd kd' : Int → Nat × Int} {w w' : Nat × Nat × Nat} {a b : Int} (x0 : kd 0 = (14, 0)) (call : f_X11_reader [(1, 0), (0, a), (0, b)] (m, kd, w) = some (.inr 2, (m', kd', w'))) : qa_ev P_L_reader 0 [(1, 0), (0, a), (0, b), (1, 91), (9, 0)] [] (m, kd, w) = some (.inl (some (0, 2)), (m', kd', w')) := by
  simp (disch := omega) [ev_L_reader_0, ev_L_reader_1, ev_L_reader_2, ev_L_reader_3, B_L_reader_0, B_L_reader_1, B_L_reader_2, B_L_reader_3, x_const, x_iadd, x_isub, x_imul, x_idiv, x_irem, x_ineg, x_dup, x_dup_x1, x_dup2, x_pop, x_goto, x_ifeq, x_ifne, x_iflt, x_ifge, x_ifgt, x_ifle, x_cmpeq, x_cmpne, x_cmplt, x_cmpge, x_cmpgt, x_cmple, x_null, x_nonnull, x_acmpeq, x_acmpne, x_get, x_put, x_putz, x_ald, x_ast, x_bast, x_zast, x_aast, x_alen, x_obj, x_ret, x_retz, x_vret, x_max, x_min, x_copy, x_i2l, qg_none, qg_inl, qg_inr, qg_ite, xr1, xr0, xrE, xri, xl0, xl1, xl2, xl3, xl4, xl5, xl6, xl7, xl8, xl9, xl10, xs0, xs1, xs2, xs3, xs4, xs5, xs6, xs7, xs8, xs9, xs10, xi0, xi1, xi2, xi3, xi4, xi5, xi6, xi7, xi8, xi9, xi10, xc0, xc1, xc2, xc3, xc4, xc5, xc6, xc7, xv1, xv2, xv3, xv4, xv5, xv6, xv7, dT_le, dF_le, dT_lt, dF_lt, qa_free, xh3, xhrE2 2 1 1 4 2 4 (by decide), x0, call]
  rfl
theorem lp_reader {N : Int} {g : zG} {a b : Int} (h : PPub N g f_X11_reader [(1, 0), (0, a), (0, b)] f_X12_reader [(1, 77), (0, a), (0, b)] [(1, 1), (2, 2)]) : LPPub N g f_L_reader [(1, 0), (0, a), (0, b), (1, 91)] f_X12_reader [(1, 77), (0, a), (0, b)] := by
  obtain ⟨g', N', e, code, ans, h1, h2, h3, h4, C, M⟩ := h
  have hc : 0 ≤ code ∧ code ≤ 2 := by
    rcases h4 with ⟨_, z⟩ | ⟨_, hm⟩
    · omega
    · simp at hm
      omega
  refine ⟨g', N', code, ans, h1, h2, h3, hc, fun m kd n c s i k91 => ?_, M⟩
  obtain ⟨m', kd', n', c', s', e1, i1, i2, i3, i4, i5⟩ := C m kd n c s i
  have x0 := i.q.2.2.1
  have k91' : kd' 91 = (105, 1) := by rw [(i2 91 (by decide) (by decide)).2]; exact k91
  rcases h4 with ⟨z1, z2⟩ | ⟨h0, hm⟩
  · rw [if_pos z1] at e1
    rw [z2]
    exact ⟨qa_up m' 91 0 ans, kd', n', c', s', qa_fn_eq (l_reader0 x0 k91' e1) (by simp; omega), CI_91 i1 0 ans, fun x a b => (i2 x a b).2, fun x a b c => by
      rw [← (i2 x a b).1]
      funext j
      exact qa_up_no _ (fun z => c z.1), fun _ => qa_up_hit _ _ _ _, i3, i4, i5⟩
  · rw [if_neg h0] at e1
    simp at hm
    rcases hm with hm | hm
    · obtain ⟨z1, z2⟩ := hm
      rw [z1] at e1
      rw [z2]
      exact ⟨m', kd', n', c', s', qa_fn_eq (l_readerE1 x0 e1) (by simp; omega), i1, fun x a b => (i2 x a b).2, fun x a b _ => (i2 x a b).1, fun z => absurd z (by decide), i3, i4, i5⟩
    · obtain ⟨z1, z2⟩ := hm
      rw [z1] at e1
      rw [z2]
      exact ⟨m', kd', n', c', s', qa_fn_eq (l_readerE2 x0 e1) (by simp; omega), i1, fun x a b => (i2 x a b).2, fun x a b _ => (i2 x a b).1, fun z => absurd z (by decide), i3, i4, i5⟩
theorem l_debt0 {m m' : Int → Int → Int} {kd kd' : Int → Nat × Int} {w w' : Nat × Nat × Nat} {a b v : Int} (x0 : kd 0 = (14, 0)) (k91 : kd' 91 = (105, 1)) (call : f_X11_debt [(1, 0), (0, a), (0, b)] (m, kd, w) = some (.inl (some (0, v)), (m', kd', w'))) : qa_ev P_L_debt 0 [(1, 0), (0, a), (0, b), (1, 91), (9, 0)] [] (m, kd, w) = some (.inl (some (0, 0)), (qa_up m' 91 0 v, kd', w')) := by
  simp (disch := omega) [ev_L_debt_0, ev_L_debt_1, ev_L_debt_2, ev_L_debt_3, B_L_debt_0, B_L_debt_1, B_L_debt_2, B_L_debt_3, x_const, x_iadd, x_isub, x_imul, x_idiv, x_irem, x_ineg, x_dup, x_dup_x1, x_dup2, x_pop, x_goto, x_ifeq, x_ifne, x_iflt, x_ifge, x_ifgt, x_ifle, x_cmpeq, x_cmpne, x_cmplt, x_cmpge, x_cmpgt, x_cmple, x_null, x_nonnull, x_acmpeq, x_acmpne, x_get, x_put, x_putz, x_ald, x_ast, x_bast, x_zast, x_aast, x_alen, x_obj, x_ret, x_retz, x_vret, x_max, x_min, x_copy, x_i2l, qg_none, qg_inl, qg_inr, qg_ite, xr1, xr0, xrE, xri, xl0, xl1, xl2, xl3, xl4, xl5, xl6, xl7, xl8, xl9, xl10, xs0, xs1, xs2, xs3, xs4, xs5, xs6, xs7, xs8, xs9, xs10, xi0, xi1, xi2, xi3, xi4, xi5, xi6, xi7, xi8, xi9, xi10, xc0, xc1, xc2, xc3, xc4, xc5, xc6, xc7, xv1, xv2, xv3, xv4, xv5, xv6, xv7, dT_le, dF_le, dT_lt, dF_lt, xhr1, xhrE1, qa_free, xh3, x0, k91, call]
theorem l_debtE1 {m m' : Int → Int → Int} {kd kd' : Int → Nat × Int} {w w' : Nat × Nat × Nat} {a b : Int} (x0 : kd 0 = (14, 0)) (call : f_X11_debt [(1, 0), (0, a), (0, b)] (m, kd, w) = some (.inr 1, (m', kd', w'))) : qa_ev P_L_debt 0 [(1, 0), (0, a), (0, b), (1, 91), (9, 0)] [] (m, kd, w) = some (.inl (some (0, 1)), (m', kd', w')) := by
  simp (disch := omega) [ev_L_debt_0, ev_L_debt_1, ev_L_debt_2, ev_L_debt_3, B_L_debt_0, B_L_debt_1, B_L_debt_2, B_L_debt_3, x_const, x_iadd, x_isub, x_imul, x_idiv, x_irem, x_ineg, x_dup, x_dup_x1, x_dup2, x_pop, x_goto, x_ifeq, x_ifne, x_iflt, x_ifge, x_ifgt, x_ifle, x_cmpeq, x_cmpne, x_cmplt, x_cmpge, x_cmpgt, x_cmple, x_null, x_nonnull, x_acmpeq, x_acmpne, x_get, x_put, x_putz, x_ald, x_ast, x_bast, x_zast, x_aast, x_alen, x_obj, x_ret, x_retz, x_vret, x_max, x_min, x_copy, x_i2l, qg_none, qg_inl, qg_inr, qg_ite, xr1, xr0, xrE, xri, xl0, xl1, xl2, xl3, xl4, xl5, xl6, xl7, xl8, xl9, xl10, xs0, xs1, xs2, xs3, xs4, xs5, xs6, xs7, xs8, xs9, xs10, xi0, xi1, xi2, xi3, xi4, xi5, xi6, xi7, xi8, xi9, xi10, xc0, xc1, xc2, xc3, xc4, xc5, xc6, xc7, xv1, xv2, xv3, xv4, xv5, xv6, xv7, dT_le, dF_le, dT_lt, dF_lt, qa_free, xh3, xhrE1, x0, call]
  rfl
theorem l_debtE2 {m m' : Int → Int → Int} {kd kd' : Int → Nat × Int} {w w' : Nat × Nat × Nat} {a b : Int} (x0 : kd 0 = (14, 0)) (call : f_X11_debt [(1, 0), (0, a), (0, b)] (m, kd, w) = some (.inr 2, (m', kd', w'))) : qa_ev P_L_debt 0 [(1, 0), (0, a), (0, b), (1, 91), (9, 0)] [] (m, kd, w) = some (.inl (some (0, 2)), (m', kd', w')) := by
  simp (disch := omega) [ev_L_debt_0, ev_L_debt_1, ev_L_debt_2, ev_L_debt_3, B_L_debt_0, B_L_debt_1, B_L_debt_2, B_L_debt_3, x_const, x_iadd, x_isub, x_imul, x_idiv, x_irem, x_ineg, x_dup, x_dup_x1, x_dup2, x_pop, x_goto, x_ifeq, x_ifne, x_iflt, x_ifge, x_ifgt, x_ifle, x_cmpeq, x_cmpne, x_cmplt, x_cmpge, x_cmpgt, x_cmple, x_null, x_nonnull, x_acmpeq, x_acmpne, x_get, x_put, x_putz, x_ald, x_ast, x_bast, x_zast, x_aast, x_alen, x_obj, x_ret, x_retz, x_vret, x_max, x_min, x_copy, x_i2l, qg_none, qg_inl, qg_inr, qg_ite, xr1, xr0, xrE, xri, xl0, xl1, xl2, xl3, xl4, xl5, xl6, xl7, xl8, xl9, xl10, xs0, xs1, xs2, xs3, xs4, xs5, xs6, xs7, xs8, xs9, xs10, xi0, xi1, xi2, xi3, xi4, xi5, xi6, xi7, xi8, xi9, xi10, xc0, xc1, xc2, xc3, xc4, xc5, xc6, xc7, xv1, xv2, xv3, xv4, xv5, xv6, xv7, dT_le, dF_le, dT_lt, dF_lt, qa_free, xh3, xhrE2 2 1 1 4 2 4 (by decide), x0, call]
  rfl
theorem lp_debt {N : Int} {g : zG} {a b : Int} (h : PPub N g f_X11_debt [(1, 0), (0, a), (0, b)] f_X12_debt [(1, 77), (0, a), (0, b)] [(1, 1), (2, 2)]) : LPPub N g f_L_debt [(1, 0), (0, a), (0, b), (1, 91)] f_X12_debt [(1, 77), (0, a), (0, b)] := by
  obtain ⟨g', N', e, code, ans, h1, h2, h3, h4, C, M⟩ := h
  have hc : 0 ≤ code ∧ code ≤ 2 := by
    rcases h4 with ⟨_, z⟩ | ⟨_, hm⟩
    · omega
    · simp at hm
      omega
  refine ⟨g', N', code, ans, h1, h2, h3, hc, fun m kd n c s i k91 => ?_, M⟩
  obtain ⟨m', kd', n', c', s', e1, i1, i2, i3, i4, i5⟩ := C m kd n c s i
  have x0 := i.q.2.2.1
  have k91' : kd' 91 = (105, 1) := by rw [(i2 91 (by decide) (by decide)).2]; exact k91
  rcases h4 with ⟨z1, z2⟩ | ⟨h0, hm⟩
  · rw [if_pos z1] at e1
    rw [z2]
    exact ⟨qa_up m' 91 0 ans, kd', n', c', s', qa_fn_eq (l_debt0 x0 k91' e1) (by simp; omega), CI_91 i1 0 ans, fun x a b => (i2 x a b).2, fun x a b c => by
      rw [← (i2 x a b).1]
      funext j
      exact qa_up_no _ (fun z => c z.1), fun _ => qa_up_hit _ _ _ _, i3, i4, i5⟩
  · rw [if_neg h0] at e1
    simp at hm
    rcases hm with hm | hm
    · obtain ⟨z1, z2⟩ := hm
      rw [z1] at e1
      rw [z2]
      exact ⟨m', kd', n', c', s', qa_fn_eq (l_debtE1 x0 e1) (by simp; omega), i1, fun x a b => (i2 x a b).2, fun x a b _ => (i2 x a b).1, fun z => absurd z (by decide), i3, i4, i5⟩
    · obtain ⟨z1, z2⟩ := hm
      rw [z1] at e1
      rw [z2]
      exact ⟨m', kd', n', c', s', qa_fn_eq (l_debtE2 x0 e1) (by simp; omega), i1, fun x a b => (i2 x a b).2, fun x a b _ => (i2 x a b).1, fun z => absurd z (by decide), i3, i4, i5⟩
theorem l_debtOf0 {m m' : Int → Int → Int} {kd kd' : Int → Nat × Int} {w w' : Nat × Nat × Nat} {a b v : Int} (x0 : kd 0 = (14, 0)) (k91 : kd' 91 = (105, 1)) (call : f_X11_debtOf [(1, 0), (0, a), (0, b)] (m, kd, w) = some (.inl (some (0, v)), (m', kd', w'))) : qa_ev P_L_debtOf 0 [(1, 0), (0, a), (0, b), (1, 91), (9, 0)] [] (m, kd, w) = some (.inl (some (0, 0)), (qa_up m' 91 0 v, kd', w')) := by
  simp (disch := omega) [ev_L_debtOf_0, ev_L_debtOf_1, ev_L_debtOf_2, ev_L_debtOf_3, B_L_debtOf_0, B_L_debtOf_1, B_L_debtOf_2, B_L_debtOf_3, x_const, x_iadd, x_isub, x_imul, x_idiv, x_irem, x_ineg, x_dup, x_dup_x1, x_dup2, x_pop, x_goto, x_ifeq, x_ifne, x_iflt, x_ifge, x_ifgt, x_ifle, x_cmpeq, x_cmpne, x_cmplt, x_cmpge, x_cmpgt, x_cmple, x_null, x_nonnull, x_acmpeq, x_acmpne, x_get, x_put, x_putz, x_ald, x_ast, x_bast, x_zast, x_aast, x_alen, x_obj, x_ret, x_retz, x_vret, x_max, x_min, x_copy, x_i2l, qg_none, qg_inl, qg_inr, qg_ite, xr1, xr0, xrE, xri, xl0, xl1, xl2, xl3, xl4, xl5, xl6, xl7, xl8, xl9, xl10, xs0, xs1, xs2, xs3, xs4, xs5, xs6, xs7, xs8, xs9, xs10, xi0, xi1, xi2, xi3, xi4, xi5, xi6, xi7, xi8, xi9, xi10, xc0, xc1, xc2, xc3, xc4, xc5, xc6, xc7, xv1, xv2, xv3, xv4, xv5, xv6, xv7, dT_le, dF_le, dT_lt, dF_lt, xhr1, xhrE1, qa_free, xh3, x0, k91, call]
theorem l_debtOfE1 {m m' : Int → Int → Int} {kd kd' : Int → Nat × Int} {w w' : Nat × Nat × Nat} {a b : Int} (x0 : kd 0 = (14, 0)) (call : f_X11_debtOf [(1, 0), (0, a), (0, b)] (m, kd, w) = some (.inr 1, (m', kd', w'))) : qa_ev P_L_debtOf 0 [(1, 0), (0, a), (0, b), (1, 91), (9, 0)] [] (m, kd, w) = some (.inl (some (0, 1)), (m', kd', w')) := by
  simp (disch := omega) [ev_L_debtOf_0, ev_L_debtOf_1, ev_L_debtOf_2, ev_L_debtOf_3, B_L_debtOf_0, B_L_debtOf_1, B_L_debtOf_2, B_L_debtOf_3, x_const, x_iadd, x_isub, x_imul, x_idiv, x_irem, x_ineg, x_dup, x_dup_x1, x_dup2, x_pop, x_goto, x_ifeq, x_ifne, x_iflt, x_ifge, x_ifgt, x_ifle, x_cmpeq, x_cmpne, x_cmplt, x_cmpge, x_cmpgt, x_cmple, x_null, x_nonnull, x_acmpeq, x_acmpne, x_get, x_put, x_putz, x_ald, x_ast, x_bast, x_zast, x_aast, x_alen, x_obj, x_ret, x_retz, x_vret, x_max, x_min, x_copy, x_i2l, qg_none, qg_inl, qg_inr, qg_ite, xr1, xr0, xrE, xri, xl0, xl1, xl2, xl3, xl4, xl5, xl6, xl7, xl8, xl9, xl10, xs0, xs1, xs2, xs3, xs4, xs5, xs6, xs7, xs8, xs9, xs10, xi0, xi1, xi2, xi3, xi4, xi5, xi6, xi7, xi8, xi9, xi10, xc0, xc1, xc2, xc3, xc4, xc5, xc6, xc7, xv1, xv2, xv3, xv4, xv5, xv6, xv7, dT_le, dF_le, dT_lt, dF_lt, qa_free, xh3, xhrE1, x0, call]
  rfl
theorem l_debtOfE2 {m m' : Int → Int → Int} {kd kd' : Int → Nat × Int} {w w' : Nat × Nat × Nat} {a b : Int} (x0 : kd 0 = (14, 0)) (call : f_X11_debtOf [(1, 0), (0, a), (0, b)] (m, kd, w) = some (.inr 2, (m', kd', w'))) : qa_ev P_L_debtOf 0 [(1, 0), (0, a), (0, b), (1, 91), (9, 0)] [] (m, kd, w) = some (.inl (some (0, 2)), (m', kd', w')) := by
  simp (disch := omega) [ev_L_debtOf_0, ev_L_debtOf_1, ev_L_debtOf_2, ev_L_debtOf_3, B_L_debtOf_0, B_L_debtOf_1, B_L_debtOf_2, B_L_debtOf_3, x_const, x_iadd, x_isub, x_imul, x_idiv, x_irem, x_ineg, x_dup, x_dup_x1, x_dup2, x_pop, x_goto, x_ifeq, x_ifne, x_iflt, x_ifge, x_ifgt, x_ifle, x_cmpeq, x_cmpne, x_cmplt, x_cmpge, x_cmpgt, x_cmple, x_null, x_nonnull, x_acmpeq, x_acmpne, x_get, x_put, x_putz, x_ald, x_ast, x_bast, x_zast, x_aast, x_alen, x_obj, x_ret, x_retz, x_vret, x_max, x_min, x_copy, x_i2l, qg_none, qg_inl, qg_inr, qg_ite, xr1, xr0, xrE, xri, xl0, xl1, xl2, xl3, xl4, xl5, xl6, xl7, xl8, xl9, xl10, xs0, xs1, xs2, xs3, xs4, xs5, xs6, xs7, xs8, xs9, xs10, xi0, xi1, xi2, xi3, xi4, xi5, xi6, xi7, xi8, xi9, xi10, xc0, xc1, xc2, xc3, xc4, xc5, xc6, xc7, xv1, xv2, xv3, xv4, xv5, xv6, xv7, dT_le, dF_le, dT_lt, dF_lt, qa_free, xh3, xhrE2 2 1 1 4 2 4 (by decide), x0, call]
  rfl
theorem lp_debtOf {N : Int} {g : zG} {a b : Int} (h : PPub N g f_X11_debtOf [(1, 0), (0, a), (0, b)] f_X12_debtOf [(1, 77), (0, a), (0, b)] [(1, 1), (2, 2)]) : LPPub N g f_L_debtOf [(1, 0), (0, a), (0, b), (1, 91)] f_X12_debtOf [(1, 77), (0, a), (0, b)] := by
  obtain ⟨g', N', e, code, ans, h1, h2, h3, h4, C, M⟩ := h
  have hc : 0 ≤ code ∧ code ≤ 2 := by
    rcases h4 with ⟨_, z⟩ | ⟨_, hm⟩
    · omega
    · simp at hm
      omega
  refine ⟨g', N', code, ans, h1, h2, h3, hc, fun m kd n c s i k91 => ?_, M⟩
  obtain ⟨m', kd', n', c', s', e1, i1, i2, i3, i4, i5⟩ := C m kd n c s i
  have x0 := i.q.2.2.1
  have k91' : kd' 91 = (105, 1) := by rw [(i2 91 (by decide) (by decide)).2]; exact k91
  rcases h4 with ⟨z1, z2⟩ | ⟨h0, hm⟩
  · rw [if_pos z1] at e1
    rw [z2]
    exact ⟨qa_up m' 91 0 ans, kd', n', c', s', qa_fn_eq (l_debtOf0 x0 k91' e1) (by simp; omega), CI_91 i1 0 ans, fun x a b => (i2 x a b).2, fun x a b c => by
      rw [← (i2 x a b).1]
      funext j
      exact qa_up_no _ (fun z => c z.1), fun _ => qa_up_hit _ _ _ _, i3, i4, i5⟩
  · rw [if_neg h0] at e1
    simp at hm
    rcases hm with hm | hm
    · obtain ⟨z1, z2⟩ := hm
      rw [z1] at e1
      rw [z2]
      exact ⟨m', kd', n', c', s', qa_fn_eq (l_debtOfE1 x0 e1) (by simp; omega), i1, fun x a b => (i2 x a b).2, fun x a b _ => (i2 x a b).1, fun z => absurd z (by decide), i3, i4, i5⟩
    · obtain ⟨z1, z2⟩ := hm
      rw [z1] at e1
      rw [z2]
      exact ⟨m', kd', n', c', s', qa_fn_eq (l_debtOfE2 x0 e1) (by simp; omega), i1, fun x a b => (i2 x a b).2, fun x a b _ => (i2 x a b).1, fun z => absurd z (by decide), i3, i4, i5⟩
theorem l_item0 {m m' : Int → Int → Int} {kd kd' : Int → Nat × Int} {w w' : Nat × Nat × Nat} {a b v : Int} (x0 : kd 0 = (14, 0)) (k91 : kd' 91 = (105, 1)) (call : f_X11_item [(1, 0), (0, a), (0, b)] (m, kd, w) = some (.inl (some (0, v)), (m', kd', w'))) : qa_ev P_L_item 0 [(1, 0), (0, a), (0, b), (1, 91), (9, 0)] [] (m, kd, w) = some (.inl (some (0, 0)), (qa_up m' 91 0 v, kd', w')) := by
  simp (disch := omega) [ev_L_item_0, ev_L_item_1, ev_L_item_2, ev_L_item_3, B_L_item_0, B_L_item_1, B_L_item_2, B_L_item_3, x_const, x_iadd, x_isub, x_imul, x_idiv, x_irem, x_ineg, x_dup, x_dup_x1, x_dup2, x_pop, x_goto, x_ifeq, x_ifne, x_iflt, x_ifge, x_ifgt, x_ifle, x_cmpeq, x_cmpne, x_cmplt, x_cmpge, x_cmpgt, x_cmple, x_null, x_nonnull, x_acmpeq, x_acmpne, x_get, x_put, x_putz, x_ald, x_ast, x_bast, x_zast, x_aast, x_alen, x_obj, x_ret, x_retz, x_vret, x_max, x_min, x_copy, x_i2l, qg_none, qg_inl, qg_inr, qg_ite, xr1, xr0, xrE, xri, xl0, xl1, xl2, xl3, xl4, xl5, xl6, xl7, xl8, xl9, xl10, xs0, xs1, xs2, xs3, xs4, xs5, xs6, xs7, xs8, xs9, xs10, xi0, xi1, xi2, xi3, xi4, xi5, xi6, xi7, xi8, xi9, xi10, xc0, xc1, xc2, xc3, xc4, xc5, xc6, xc7, xv1, xv2, xv3, xv4, xv5, xv6, xv7, dT_le, dF_le, dT_lt, dF_lt, xhr1, xhrE1, qa_free, xh3, x0, k91, call]
theorem l_itemE1 {m m' : Int → Int → Int} {kd kd' : Int → Nat × Int} {w w' : Nat × Nat × Nat} {a b : Int} (x0 : kd 0 = (14, 0)) (call : f_X11_item [(1, 0), (0, a), (0, b)] (m, kd, w) = some (.inr 1, (m', kd', w'))) : qa_ev P_L_item 0 [(1, 0), (0, a), (0, b), (1, 91), (9, 0)] [] (m, kd, w) = some (.inl (some (0, 1)), (m', kd', w')) := by
  simp (disch := omega) [ev_L_item_0, ev_L_item_1, ev_L_item_2, ev_L_item_3, B_L_item_0, B_L_item_1, B_L_item_2, B_L_item_3, x_const, x_iadd, x_isub, x_imul, x_idiv, x_irem, x_ineg, x_dup, x_dup_x1, x_dup2, x_pop, x_goto, x_ifeq, x_ifne, x_iflt, x_ifge, x_ifgt, x_ifle, x_cmpeq, x_cmpne, x_cmplt, x_cmpge, x_cmpgt, x_cmple, x_null, x_nonnull, x_acmpeq, x_acmpne, x_get, x_put, x_putz, x_ald, x_ast, x_bast, x_zast, x_aast, x_alen, x_obj, x_ret, x_retz, x_vret, x_max, x_min, x_copy, x_i2l, qg_none, qg_inl, qg_inr, qg_ite, xr1, xr0, xrE, xri, xl0, xl1, xl2, xl3, xl4, xl5, xl6, xl7, xl8, xl9, xl10, xs0, xs1, xs2, xs3, xs4, xs5, xs6, xs7, xs8, xs9, xs10, xi0, xi1, xi2, xi3, xi4, xi5, xi6, xi7, xi8, xi9, xi10, xc0, xc1, xc2, xc3, xc4, xc5, xc6, xc7, xv1, xv2, xv3, xv4, xv5, xv6, xv7, dT_le, dF_le, dT_lt, dF_lt, qa_free, xh3, xhrE1, x0, call]
  rfl
theorem l_itemE2 {m m' : Int → Int → Int} {kd kd' : Int → Nat × Int} {w w' : Nat × Nat × Nat} {a b : Int} (x0 : kd 0 = (14, 0)) (call : f_X11_item [(1, 0), (0, a), (0, b)] (m, kd, w) = some (.inr 2, (m', kd', w'))) : qa_ev P_L_item 0 [(1, 0), (0, a), (0, b), (1, 91), (9, 0)] [] (m, kd, w) = some (.inl (some (0, 2)), (m', kd', w')) := by
  simp (disch := omega) [ev_L_item_0, ev_L_item_1, ev_L_item_2, ev_L_item_3, B_L_item_0, B_L_item_1, B_L_item_2, B_L_item_3, x_const, x_iadd, x_isub, x_imul, x_idiv, x_irem, x_ineg, x_dup, x_dup_x1, x_dup2, x_pop, x_goto, x_ifeq, x_ifne, x_iflt, x_ifge, x_ifgt, x_ifle, x_cmpeq, x_cmpne, x_cmplt, x_cmpge, x_cmpgt, x_cmple, x_null, x_nonnull, x_acmpeq, x_acmpne, x_get, x_put, x_putz, x_ald, x_ast, x_bast, x_zast, x_aast, x_alen, x_obj, x_ret, x_retz, x_vret, x_max, x_min, x_copy, x_i2l, qg_none, qg_inl, qg_inr, qg_ite, xr1, xr0, xrE, xri, xl0, xl1, xl2, xl3, xl4, xl5, xl6, xl7, xl8, xl9, xl10, xs0, xs1, xs2, xs3, xs4, xs5, xs6, xs7, xs8, xs9, xs10, xi0, xi1, xi2, xi3, xi4, xi5, xi6, xi7, xi8, xi9, xi10, xc0, xc1, xc2, xc3, xc4, xc5, xc6, xc7, xv1, xv2, xv3, xv4, xv5, xv6, xv7, dT_le, dF_le, dT_lt, dF_lt, qa_free, xh3, xhrE2 2 1 1 4 2 4 (by decide), x0, call]
  rfl
theorem lp_item {N : Int} {g : zG} {a b : Int} (h : PPub N g f_X11_item [(1, 0), (0, a), (0, b)] f_X12_item [(1, 77), (0, a), (0, b)] [(1, 1), (2, 2)]) : LPPub N g f_L_item [(1, 0), (0, a), (0, b), (1, 91)] f_X12_item [(1, 77), (0, a), (0, b)] := by
  obtain ⟨g', N', e, code, ans, h1, h2, h3, h4, C, M⟩ := h
  have hc : 0 ≤ code ∧ code ≤ 2 := by
    rcases h4 with ⟨_, z⟩ | ⟨_, hm⟩
    · omega
    · simp at hm
      omega
  refine ⟨g', N', code, ans, h1, h2, h3, hc, fun m kd n c s i k91 => ?_, M⟩
  obtain ⟨m', kd', n', c', s', e1, i1, i2, i3, i4, i5⟩ := C m kd n c s i
  have x0 := i.q.2.2.1
  have k91' : kd' 91 = (105, 1) := by rw [(i2 91 (by decide) (by decide)).2]; exact k91
  rcases h4 with ⟨z1, z2⟩ | ⟨h0, hm⟩
  · rw [if_pos z1] at e1
    rw [z2]
    exact ⟨qa_up m' 91 0 ans, kd', n', c', s', qa_fn_eq (l_item0 x0 k91' e1) (by simp; omega), CI_91 i1 0 ans, fun x a b => (i2 x a b).2, fun x a b c => by
      rw [← (i2 x a b).1]
      funext j
      exact qa_up_no _ (fun z => c z.1), fun _ => qa_up_hit _ _ _ _, i3, i4, i5⟩
  · rw [if_neg h0] at e1
    simp at hm
    rcases hm with hm | hm
    · obtain ⟨z1, z2⟩ := hm
      rw [z1] at e1
      rw [z2]
      exact ⟨m', kd', n', c', s', qa_fn_eq (l_itemE1 x0 e1) (by simp; omega), i1, fun x a b => (i2 x a b).2, fun x a b _ => (i2 x a b).1, fun z => absurd z (by decide), i3, i4, i5⟩
    · obtain ⟨z1, z2⟩ := hm
      rw [z1] at e1
      rw [z2]
      exact ⟨m', kd', n', c', s', qa_fn_eq (l_itemE2 x0 e1) (by simp; omega), i1, fun x a b => (i2 x a b).2, fun x a b _ => (i2 x a b).1, fun z => absurd z (by decide), i3, i4, i5⟩
theorem l_account0 {m m' : Int → Int → Int} {kd kd' : Int → Nat × Int} {w w' : Nat × Nat × Nat} {a v : Int} (x0 : kd 0 = (14, 0)) (k91 : kd' 91 = (105, 1)) (call : f_X11_account [(1, 0), (0, a)] (m, kd, w) = some (.inl (some (0, v)), (m', kd', w'))) : qa_ev P_L_account 0 [(1, 0), (0, a), (1, 91), (9, 0)] [] (m, kd, w) = some (.inl (some (0, 0)), (qa_up m' 91 0 v, kd', w')) := by
  simp (disch := omega) [ev_L_account_0, ev_L_account_1, ev_L_account_2, B_L_account_0, B_L_account_1, B_L_account_2, x_const, x_iadd, x_isub, x_imul, x_idiv, x_irem, x_ineg, x_dup, x_dup_x1, x_dup2, x_pop, x_goto, x_ifeq, x_ifne, x_iflt, x_ifge, x_ifgt, x_ifle, x_cmpeq, x_cmpne, x_cmplt, x_cmpge, x_cmpgt, x_cmple, x_null, x_nonnull, x_acmpeq, x_acmpne, x_get, x_put, x_putz, x_ald, x_ast, x_bast, x_zast, x_aast, x_alen, x_obj, x_ret, x_retz, x_vret, x_max, x_min, x_copy, x_i2l, qg_none, qg_inl, qg_inr, qg_ite, xr1, xr0, xrE, xri, xl0, xl1, xl2, xl3, xl4, xl5, xl6, xl7, xl8, xl9, xl10, xs0, xs1, xs2, xs3, xs4, xs5, xs6, xs7, xs8, xs9, xs10, xi0, xi1, xi2, xi3, xi4, xi5, xi6, xi7, xi8, xi9, xi10, xc0, xc1, xc2, xc3, xc4, xc5, xc6, xc7, xv1, xv2, xv3, xv4, xv5, xv6, xv7, dT_le, dF_le, dT_lt, dF_lt, xhr1, xhrE1, qa_free, xh2, x0, k91, call]
theorem l_accountE2 {m m' : Int → Int → Int} {kd kd' : Int → Nat × Int} {w w' : Nat × Nat × Nat} {a : Int} (x0 : kd 0 = (14, 0)) (call : f_X11_account [(1, 0), (0, a)] (m, kd, w) = some (.inr 2, (m', kd', w'))) : qa_ev P_L_account 0 [(1, 0), (0, a), (1, 91), (9, 0)] [] (m, kd, w) = some (.inl (some (0, 1)), (m', kd', w')) := by
  simp (disch := omega) [ev_L_account_0, ev_L_account_1, ev_L_account_2, B_L_account_0, B_L_account_1, B_L_account_2, x_const, x_iadd, x_isub, x_imul, x_idiv, x_irem, x_ineg, x_dup, x_dup_x1, x_dup2, x_pop, x_goto, x_ifeq, x_ifne, x_iflt, x_ifge, x_ifgt, x_ifle, x_cmpeq, x_cmpne, x_cmplt, x_cmpge, x_cmpgt, x_cmple, x_null, x_nonnull, x_acmpeq, x_acmpne, x_get, x_put, x_putz, x_ald, x_ast, x_bast, x_zast, x_aast, x_alen, x_obj, x_ret, x_retz, x_vret, x_max, x_min, x_copy, x_i2l, qg_none, qg_inl, qg_inr, qg_ite, xr1, xr0, xrE, xri, xl0, xl1, xl2, xl3, xl4, xl5, xl6, xl7, xl8, xl9, xl10, xs0, xs1, xs2, xs3, xs4, xs5, xs6, xs7, xs8, xs9, xs10, xi0, xi1, xi2, xi3, xi4, xi5, xi6, xi7, xi8, xi9, xi10, xc0, xc1, xc2, xc3, xc4, xc5, xc6, xc7, xv1, xv2, xv3, xv4, xv5, xv6, xv7, dT_le, dF_le, dT_lt, dF_lt, qa_free, xh2, xhrE1, x0, call]
  rfl
theorem lp_account {N : Int} {g : zG} {a : Int} (h : PPub N g f_X11_account [(1, 0), (0, a)] f_X12_account [(1, 77), (0, a)] [(2, 1)]) : LPPub N g f_L_account [(1, 0), (0, a), (1, 91)] f_X12_account [(1, 77), (0, a)] := by
  obtain ⟨g', N', e, code, ans, h1, h2, h3, h4, C, M⟩ := h
  have hc : 0 ≤ code ∧ code ≤ 2 := by
    rcases h4 with ⟨_, z⟩ | ⟨_, hm⟩
    · omega
    · simp at hm
      omega
  refine ⟨g', N', code, ans, h1, h2, h3, hc, fun m kd n c s i k91 => ?_, M⟩
  obtain ⟨m', kd', n', c', s', e1, i1, i2, i3, i4, i5⟩ := C m kd n c s i
  have x0 := i.q.2.2.1
  have k91' : kd' 91 = (105, 1) := by rw [(i2 91 (by decide) (by decide)).2]; exact k91
  rcases h4 with ⟨z1, z2⟩ | ⟨h0, hm⟩
  · rw [if_pos z1] at e1
    rw [z2]
    exact ⟨qa_up m' 91 0 ans, kd', n', c', s', qa_fn_eq (l_account0 x0 k91' e1) (by simp; omega), CI_91 i1 0 ans, fun x a b => (i2 x a b).2, fun x a b c => by
      rw [← (i2 x a b).1]
      funext j
      exact qa_up_no _ (fun z => c z.1), fun _ => qa_up_hit _ _ _ _, i3, i4, i5⟩
  · rw [if_neg h0] at e1
    simp at hm
    obtain ⟨z1, z2⟩ := hm
    rw [z1] at e1
    rw [z2]
    exact ⟨m', kd', n', c', s', qa_fn_eq (l_accountE2 x0 e1) (by simp; omega), i1, fun x a b => (i2 x a b).2, fun x a b _ => (i2 x a b).1, fun z => absurd z (by decide), i3, i4, i5⟩
theorem l_append0 {m m' : Int → Int → Int} {kd kd' : Int → Nat × Int} {w w' : Nat × Nat × Nat} {a b c1 d1 v : Int} (x0 : kd 0 = (14, 0)) (k91 : kd' 91 = (105, 1)) (call : f_X11_append [(1, 0), (0, a), (0, b), (0, c1), (0, d1)] (m, kd, w) = some (.inl (some (0, v)), (m', kd', w'))) : qa_ev P_L_append 0 [(1, 0), (0, a), (0, b), (0, c1), (0, d1), (1, 91), (9, 0)] [] (m, kd, w) = some (.inl (some (0, 0)), (qa_up m' 91 0 v, kd', w')) := by
  simp (disch := omega) [ev_L_append_0, ev_L_append_1, ev_L_append_2, ev_L_append_3, B_L_append_0, B_L_append_1, B_L_append_2, B_L_append_3, x_const, x_iadd, x_isub, x_imul, x_idiv, x_irem, x_ineg, x_dup, x_dup_x1, x_dup2, x_pop, x_goto, x_ifeq, x_ifne, x_iflt, x_ifge, x_ifgt, x_ifle, x_cmpeq, x_cmpne, x_cmplt, x_cmpge, x_cmpgt, x_cmple, x_null, x_nonnull, x_acmpeq, x_acmpne, x_get, x_put, x_putz, x_ald, x_ast, x_bast, x_zast, x_aast, x_alen, x_obj, x_ret, x_retz, x_vret, x_max, x_min, x_copy, x_i2l, qg_none, qg_inl, qg_inr, qg_ite, xr1, xr0, xrE, xri, xl0, xl1, xl2, xl3, xl4, xl5, xl6, xl7, xl8, xl9, xl10, xs0, xs1, xs2, xs3, xs4, xs5, xs6, xs7, xs8, xs9, xs10, xi0, xi1, xi2, xi3, xi4, xi5, xi6, xi7, xi8, xi9, xi10, xc0, xc1, xc2, xc3, xc4, xc5, xc6, xc7, xv1, xv2, xv3, xv4, xv5, xv6, xv7, dT_le, dF_le, dT_lt, dF_lt, xhr1, xhrE1, qa_free, xh5, x0, k91, call]
theorem l_appendE1 {m m' : Int → Int → Int} {kd kd' : Int → Nat × Int} {w w' : Nat × Nat × Nat} {a b c1 d1 : Int} (x0 : kd 0 = (14, 0)) (call : f_X11_append [(1, 0), (0, a), (0, b), (0, c1), (0, d1)] (m, kd, w) = some (.inr 1, (m', kd', w'))) : qa_ev P_L_append 0 [(1, 0), (0, a), (0, b), (0, c1), (0, d1), (1, 91), (9, 0)] [] (m, kd, w) = some (.inl (some (0, 1)), (m', kd', w')) := by
  simp (disch := omega) [ev_L_append_0, ev_L_append_1, ev_L_append_2, ev_L_append_3, B_L_append_0, B_L_append_1, B_L_append_2, B_L_append_3, x_const, x_iadd, x_isub, x_imul, x_idiv, x_irem, x_ineg, x_dup, x_dup_x1, x_dup2, x_pop, x_goto, x_ifeq, x_ifne, x_iflt, x_ifge, x_ifgt, x_ifle, x_cmpeq, x_cmpne, x_cmplt, x_cmpge, x_cmpgt, x_cmple, x_null, x_nonnull, x_acmpeq, x_acmpne, x_get, x_put, x_putz, x_ald, x_ast, x_bast, x_zast, x_aast, x_alen, x_obj, x_ret, x_retz, x_vret, x_max, x_min, x_copy, x_i2l, qg_none, qg_inl, qg_inr, qg_ite, xr1, xr0, xrE, xri, xl0, xl1, xl2, xl3, xl4, xl5, xl6, xl7, xl8, xl9, xl10, xs0, xs1, xs2, xs3, xs4, xs5, xs6, xs7, xs8, xs9, xs10, xi0, xi1, xi2, xi3, xi4, xi5, xi6, xi7, xi8, xi9, xi10, xc0, xc1, xc2, xc3, xc4, xc5, xc6, xc7, xv1, xv2, xv3, xv4, xv5, xv6, xv7, dT_le, dF_le, dT_lt, dF_lt, qa_free, xh5, xhrE1, x0, call]
  rfl
theorem l_appendE2 {m m' : Int → Int → Int} {kd kd' : Int → Nat × Int} {w w' : Nat × Nat × Nat} {a b c1 d1 : Int} (x0 : kd 0 = (14, 0)) (call : f_X11_append [(1, 0), (0, a), (0, b), (0, c1), (0, d1)] (m, kd, w) = some (.inr 2, (m', kd', w'))) : qa_ev P_L_append 0 [(1, 0), (0, a), (0, b), (0, c1), (0, d1), (1, 91), (9, 0)] [] (m, kd, w) = some (.inl (some (0, 2)), (m', kd', w')) := by
  simp (disch := omega) [ev_L_append_0, ev_L_append_1, ev_L_append_2, ev_L_append_3, B_L_append_0, B_L_append_1, B_L_append_2, B_L_append_3, x_const, x_iadd, x_isub, x_imul, x_idiv, x_irem, x_ineg, x_dup, x_dup_x1, x_dup2, x_pop, x_goto, x_ifeq, x_ifne, x_iflt, x_ifge, x_ifgt, x_ifle, x_cmpeq, x_cmpne, x_cmplt, x_cmpge, x_cmpgt, x_cmple, x_null, x_nonnull, x_acmpeq, x_acmpne, x_get, x_put, x_putz, x_ald, x_ast, x_bast, x_zast, x_aast, x_alen, x_obj, x_ret, x_retz, x_vret, x_max, x_min, x_copy, x_i2l, qg_none, qg_inl, qg_inr, qg_ite, xr1, xr0, xrE, xri, xl0, xl1, xl2, xl3, xl4, xl5, xl6, xl7, xl8, xl9, xl10, xs0, xs1, xs2, xs3, xs4, xs5, xs6, xs7, xs8, xs9, xs10, xi0, xi1, xi2, xi3, xi4, xi5, xi6, xi7, xi8, xi9, xi10, xc0, xc1, xc2, xc3, xc4, xc5, xc6, xc7, xv1, xv2, xv3, xv4, xv5, xv6, xv7, dT_le, dF_le, dT_lt, dF_lt, qa_free, xh5, xhrE2 2 1 1 6 2 6 (by decide), x0, call]
  rfl
theorem lp_append {N : Int} {g : zG} {a b c1 d1 : Int} (h : PPub N g f_X11_append [(1, 0), (0, a), (0, b), (0, c1), (0, d1)] f_X12_append [(1, 77), (0, a), (0, b), (0, c1), (0, d1)] [(1, 1), (2, 2)]) : LPPub N g f_L_append [(1, 0), (0, a), (0, b), (0, c1), (0, d1), (1, 91)] f_X12_append [(1, 77), (0, a), (0, b), (0, c1), (0, d1)] := by
  obtain ⟨g', N', e, code, ans, h1, h2, h3, h4, C, M⟩ := h
  have hc : 0 ≤ code ∧ code ≤ 2 := by
    rcases h4 with ⟨_, z⟩ | ⟨_, hm⟩
    · omega
    · simp at hm
      omega
  refine ⟨g', N', code, ans, h1, h2, h3, hc, fun m kd n c s i k91 => ?_, M⟩
  obtain ⟨m', kd', n', c', s', e1, i1, i2, i3, i4, i5⟩ := C m kd n c s i
  have x0 := i.q.2.2.1
  have k91' : kd' 91 = (105, 1) := by rw [(i2 91 (by decide) (by decide)).2]; exact k91
  rcases h4 with ⟨z1, z2⟩ | ⟨h0, hm⟩
  · rw [if_pos z1] at e1
    rw [z2]
    exact ⟨qa_up m' 91 0 ans, kd', n', c', s', qa_fn_eq (l_append0 x0 k91' e1) (by simp; omega), CI_91 i1 0 ans, fun x a b => (i2 x a b).2, fun x a b c => by
      rw [← (i2 x a b).1]
      funext j
      exact qa_up_no _ (fun z => c z.1), fun _ => qa_up_hit _ _ _ _, i3, i4, i5⟩
  · rw [if_neg h0] at e1
    simp at hm
    rcases hm with hm | hm
    · obtain ⟨z1, z2⟩ := hm
      rw [z1] at e1
      rw [z2]
      exact ⟨m', kd', n', c', s', qa_fn_eq (l_appendE1 x0 e1) (by simp; omega), i1, fun x a b => (i2 x a b).2, fun x a b _ => (i2 x a b).1, fun z => absurd z (by decide), i3, i4, i5⟩
    · obtain ⟨z1, z2⟩ := hm
      rw [z1] at e1
      rw [z2]
      exact ⟨m', kd', n', c', s', qa_fn_eq (l_appendE2 x0 e1) (by simp; omega), i1, fun x a b => (i2 x a b).2, fun x a b _ => (i2 x a b).1, fun z => absurd z (by decide), i3, i4, i5⟩
theorem l_join0 {m m' : Int → Int → Int} {kd kd' : Int → Nat × Int} {w w' : Nat × Nat × Nat} {a b v : Int} (x0 : kd 0 = (14, 0)) (k91 : kd' 91 = (105, 1)) (call : f_X11_join [(1, 0), (0, a), (0, b)] (m, kd, w) = some (.inl (some (0, v)), (m', kd', w'))) : qa_ev P_L_join 0 [(1, 0), (0, a), (0, b), (1, 91), (9, 0)] [] (m, kd, w) = some (.inl (some (0, 0)), (qa_up m' 91 0 v, kd', w')) := by
  simp (disch := omega) [ev_L_join_0, ev_L_join_1, ev_L_join_2, B_L_join_0, B_L_join_1, B_L_join_2, x_const, x_iadd, x_isub, x_imul, x_idiv, x_irem, x_ineg, x_dup, x_dup_x1, x_dup2, x_pop, x_goto, x_ifeq, x_ifne, x_iflt, x_ifge, x_ifgt, x_ifle, x_cmpeq, x_cmpne, x_cmplt, x_cmpge, x_cmpgt, x_cmple, x_null, x_nonnull, x_acmpeq, x_acmpne, x_get, x_put, x_putz, x_ald, x_ast, x_bast, x_zast, x_aast, x_alen, x_obj, x_ret, x_retz, x_vret, x_max, x_min, x_copy, x_i2l, qg_none, qg_inl, qg_inr, qg_ite, xr1, xr0, xrE, xri, xl0, xl1, xl2, xl3, xl4, xl5, xl6, xl7, xl8, xl9, xl10, xs0, xs1, xs2, xs3, xs4, xs5, xs6, xs7, xs8, xs9, xs10, xi0, xi1, xi2, xi3, xi4, xi5, xi6, xi7, xi8, xi9, xi10, xc0, xc1, xc2, xc3, xc4, xc5, xc6, xc7, xv1, xv2, xv3, xv4, xv5, xv6, xv7, dT_le, dF_le, dT_lt, dF_lt, xhr1, xhrE1, qa_free, xh3, x0, k91, call]
theorem l_joinE1 {m m' : Int → Int → Int} {kd kd' : Int → Nat × Int} {w w' : Nat × Nat × Nat} {a b : Int} (x0 : kd 0 = (14, 0)) (call : f_X11_join [(1, 0), (0, a), (0, b)] (m, kd, w) = some (.inr 1, (m', kd', w'))) : qa_ev P_L_join 0 [(1, 0), (0, a), (0, b), (1, 91), (9, 0)] [] (m, kd, w) = some (.inl (some (0, 1)), (m', kd', w')) := by
  simp (disch := omega) [ev_L_join_0, ev_L_join_1, ev_L_join_2, B_L_join_0, B_L_join_1, B_L_join_2, x_const, x_iadd, x_isub, x_imul, x_idiv, x_irem, x_ineg, x_dup, x_dup_x1, x_dup2, x_pop, x_goto, x_ifeq, x_ifne, x_iflt, x_ifge, x_ifgt, x_ifle, x_cmpeq, x_cmpne, x_cmplt, x_cmpge, x_cmpgt, x_cmple, x_null, x_nonnull, x_acmpeq, x_acmpne, x_get, x_put, x_putz, x_ald, x_ast, x_bast, x_zast, x_aast, x_alen, x_obj, x_ret, x_retz, x_vret, x_max, x_min, x_copy, x_i2l, qg_none, qg_inl, qg_inr, qg_ite, xr1, xr0, xrE, xri, xl0, xl1, xl2, xl3, xl4, xl5, xl6, xl7, xl8, xl9, xl10, xs0, xs1, xs2, xs3, xs4, xs5, xs6, xs7, xs8, xs9, xs10, xi0, xi1, xi2, xi3, xi4, xi5, xi6, xi7, xi8, xi9, xi10, xc0, xc1, xc2, xc3, xc4, xc5, xc6, xc7, xv1, xv2, xv3, xv4, xv5, xv6, xv7, dT_le, dF_le, dT_lt, dF_lt, qa_free, xh3, xhrE1, x0, call]
  rfl
theorem lp_join {N : Int} {g : zG} {a b : Int} (h : PPub N g f_X11_join [(1, 0), (0, a), (0, b)] f_X12_join [(1, 77), (0, a), (0, b)] [(1, 1)]) : LPPub N g f_L_join [(1, 0), (0, a), (0, b), (1, 91)] f_X12_join [(1, 77), (0, a), (0, b)] := by
  obtain ⟨g', N', e, code, ans, h1, h2, h3, h4, C, M⟩ := h
  have hc : 0 ≤ code ∧ code ≤ 2 := by
    rcases h4 with ⟨_, z⟩ | ⟨_, hm⟩
    · omega
    · simp at hm
      omega
  refine ⟨g', N', code, ans, h1, h2, h3, hc, fun m kd n c s i k91 => ?_, M⟩
  obtain ⟨m', kd', n', c', s', e1, i1, i2, i3, i4, i5⟩ := C m kd n c s i
  have x0 := i.q.2.2.1
  have k91' : kd' 91 = (105, 1) := by rw [(i2 91 (by decide) (by decide)).2]; exact k91
  rcases h4 with ⟨z1, z2⟩ | ⟨h0, hm⟩
  · rw [if_pos z1] at e1
    rw [z2]
    exact ⟨qa_up m' 91 0 ans, kd', n', c', s', qa_fn_eq (l_join0 x0 k91' e1) (by simp; omega), CI_91 i1 0 ans, fun x a b => (i2 x a b).2, fun x a b c => by
      rw [← (i2 x a b).1]
      funext j
      exact qa_up_no _ (fun z => c z.1), fun _ => qa_up_hit _ _ _ _, i3, i4, i5⟩
  · rw [if_neg h0] at e1
    simp at hm
    obtain ⟨z1, z2⟩ := hm
    rw [z1] at e1
    rw [z2]
    exact ⟨m', kd', n', c', s', qa_fn_eq (l_joinE1 x0 e1) (by simp; omega), i1, fun x a b => (i2 x a b).2, fun x a b _ => (i2 x a b).1, fun z => absurd z (by decide), i3, i4, i5⟩
theorem l_leave0 {m m' : Int → Int → Int} {kd kd' : Int → Nat × Int} {w w' : Nat × Nat × Nat} {a v : Int} (x0 : kd 0 = (14, 0)) (k91 : kd' 91 = (105, 1)) (call : f_X11_leave [(1, 0), (0, a)] (m, kd, w) = some (.inl (some (0, v)), (m', kd', w'))) : qa_ev P_L_leave 0 [(1, 0), (0, a), (1, 91), (9, 0)] [] (m, kd, w) = some (.inl (some (0, 0)), (qa_up m' 91 0 v, kd', w')) := by
  simp (disch := omega) [ev_L_leave_0, ev_L_leave_1, ev_L_leave_2, B_L_leave_0, B_L_leave_1, B_L_leave_2, x_const, x_iadd, x_isub, x_imul, x_idiv, x_irem, x_ineg, x_dup, x_dup_x1, x_dup2, x_pop, x_goto, x_ifeq, x_ifne, x_iflt, x_ifge, x_ifgt, x_ifle, x_cmpeq, x_cmpne, x_cmplt, x_cmpge, x_cmpgt, x_cmple, x_null, x_nonnull, x_acmpeq, x_acmpne, x_get, x_put, x_putz, x_ald, x_ast, x_bast, x_zast, x_aast, x_alen, x_obj, x_ret, x_retz, x_vret, x_max, x_min, x_copy, x_i2l, qg_none, qg_inl, qg_inr, qg_ite, xr1, xr0, xrE, xri, xl0, xl1, xl2, xl3, xl4, xl5, xl6, xl7, xl8, xl9, xl10, xs0, xs1, xs2, xs3, xs4, xs5, xs6, xs7, xs8, xs9, xs10, xi0, xi1, xi2, xi3, xi4, xi5, xi6, xi7, xi8, xi9, xi10, xc0, xc1, xc2, xc3, xc4, xc5, xc6, xc7, xv1, xv2, xv3, xv4, xv5, xv6, xv7, dT_le, dF_le, dT_lt, dF_lt, xhr1, xhrE1, qa_free, xh2, x0, k91, call]
theorem l_leaveE1 {m m' : Int → Int → Int} {kd kd' : Int → Nat × Int} {w w' : Nat × Nat × Nat} {a : Int} (x0 : kd 0 = (14, 0)) (call : f_X11_leave [(1, 0), (0, a)] (m, kd, w) = some (.inr 1, (m', kd', w'))) : qa_ev P_L_leave 0 [(1, 0), (0, a), (1, 91), (9, 0)] [] (m, kd, w) = some (.inl (some (0, 1)), (m', kd', w')) := by
  simp (disch := omega) [ev_L_leave_0, ev_L_leave_1, ev_L_leave_2, B_L_leave_0, B_L_leave_1, B_L_leave_2, x_const, x_iadd, x_isub, x_imul, x_idiv, x_irem, x_ineg, x_dup, x_dup_x1, x_dup2, x_pop, x_goto, x_ifeq, x_ifne, x_iflt, x_ifge, x_ifgt, x_ifle, x_cmpeq, x_cmpne, x_cmplt, x_cmpge, x_cmpgt, x_cmple, x_null, x_nonnull, x_acmpeq, x_acmpne, x_get, x_put, x_putz, x_ald, x_ast, x_bast, x_zast, x_aast, x_alen, x_obj, x_ret, x_retz, x_vret, x_max, x_min, x_copy, x_i2l, qg_none, qg_inl, qg_inr, qg_ite, xr1, xr0, xrE, xri, xl0, xl1, xl2, xl3, xl4, xl5, xl6, xl7, xl8, xl9, xl10, xs0, xs1, xs2, xs3, xs4, xs5, xs6, xs7, xs8, xs9, xs10, xi0, xi1, xi2, xi3, xi4, xi5, xi6, xi7, xi8, xi9, xi10, xc0, xc1, xc2, xc3, xc4, xc5, xc6, xc7, xv1, xv2, xv3, xv4, xv5, xv6, xv7, dT_le, dF_le, dT_lt, dF_lt, qa_free, xh2, xhrE1, x0, call]
  rfl
theorem lp_leave {N : Int} {g : zG} {a : Int} (h : PPub N g f_X11_leave [(1, 0), (0, a)] f_X12_leave [(1, 77), (0, a)] [(1, 1)]) : LPPub N g f_L_leave [(1, 0), (0, a), (1, 91)] f_X12_leave [(1, 77), (0, a)] := by
  obtain ⟨g', N', e, code, ans, h1, h2, h3, h4, C, M⟩ := h
  have hc : 0 ≤ code ∧ code ≤ 2 := by
    rcases h4 with ⟨_, z⟩ | ⟨_, hm⟩
    · omega
    · simp at hm
      omega
  refine ⟨g', N', code, ans, h1, h2, h3, hc, fun m kd n c s i k91 => ?_, M⟩
  obtain ⟨m', kd', n', c', s', e1, i1, i2, i3, i4, i5⟩ := C m kd n c s i
  have x0 := i.q.2.2.1
  have k91' : kd' 91 = (105, 1) := by rw [(i2 91 (by decide) (by decide)).2]; exact k91
  rcases h4 with ⟨z1, z2⟩ | ⟨h0, hm⟩
  · rw [if_pos z1] at e1
    rw [z2]
    exact ⟨qa_up m' 91 0 ans, kd', n', c', s', qa_fn_eq (l_leave0 x0 k91' e1) (by simp; omega), CI_91 i1 0 ans, fun x a b => (i2 x a b).2, fun x a b c => by
      rw [← (i2 x a b).1]
      funext j
      exact qa_up_no _ (fun z => c z.1), fun _ => qa_up_hit _ _ _ _, i3, i4, i5⟩
  · rw [if_neg h0] at e1
    simp at hm
    obtain ⟨z1, z2⟩ := hm
    rw [z1] at e1
    rw [z2]
    exact ⟨m', kd', n', c', s', qa_fn_eq (l_leaveE1 x0 e1) (by simp; omega), i1, fun x a b => (i2 x a b).2, fun x a b _ => (i2 x a b).1, fun z => absurd z (by decide), i3, i4, i5⟩
theorem l_read0 {m m' : Int → Int → Int} {kd kd' : Int → Nat × Int} {w w' : Nat × Nat × Nat} {a b v : Int} (x0 : kd 0 = (14, 0)) (k91 : kd' 91 = (105, 1)) (call : f_X11_read [(1, 0), (0, a), (0, b)] (m, kd, w) = some (.inl (some (0, v)), (m', kd', w'))) : qa_ev P_L_read 0 [(1, 0), (0, a), (0, b), (1, 91), (9, 0)] [] (m, kd, w) = some (.inl (some (0, 0)), (qa_up m' 91 0 v, kd', w')) := by
  simp (disch := omega) [ev_L_read_0, ev_L_read_1, ev_L_read_2, ev_L_read_3, B_L_read_0, B_L_read_1, B_L_read_2, B_L_read_3, x_const, x_iadd, x_isub, x_imul, x_idiv, x_irem, x_ineg, x_dup, x_dup_x1, x_dup2, x_pop, x_goto, x_ifeq, x_ifne, x_iflt, x_ifge, x_ifgt, x_ifle, x_cmpeq, x_cmpne, x_cmplt, x_cmpge, x_cmpgt, x_cmple, x_null, x_nonnull, x_acmpeq, x_acmpne, x_get, x_put, x_putz, x_ald, x_ast, x_bast, x_zast, x_aast, x_alen, x_obj, x_ret, x_retz, x_vret, x_max, x_min, x_copy, x_i2l, qg_none, qg_inl, qg_inr, qg_ite, xr1, xr0, xrE, xri, xl0, xl1, xl2, xl3, xl4, xl5, xl6, xl7, xl8, xl9, xl10, xs0, xs1, xs2, xs3, xs4, xs5, xs6, xs7, xs8, xs9, xs10, xi0, xi1, xi2, xi3, xi4, xi5, xi6, xi7, xi8, xi9, xi10, xc0, xc1, xc2, xc3, xc4, xc5, xc6, xc7, xv1, xv2, xv3, xv4, xv5, xv6, xv7, dT_le, dF_le, dT_lt, dF_lt, xhr1, xhrE1, qa_free, xh3, x0, k91, call]
theorem l_readE1 {m m' : Int → Int → Int} {kd kd' : Int → Nat × Int} {w w' : Nat × Nat × Nat} {a b : Int} (x0 : kd 0 = (14, 0)) (call : f_X11_read [(1, 0), (0, a), (0, b)] (m, kd, w) = some (.inr 1, (m', kd', w'))) : qa_ev P_L_read 0 [(1, 0), (0, a), (0, b), (1, 91), (9, 0)] [] (m, kd, w) = some (.inl (some (0, 1)), (m', kd', w')) := by
  simp (disch := omega) [ev_L_read_0, ev_L_read_1, ev_L_read_2, ev_L_read_3, B_L_read_0, B_L_read_1, B_L_read_2, B_L_read_3, x_const, x_iadd, x_isub, x_imul, x_idiv, x_irem, x_ineg, x_dup, x_dup_x1, x_dup2, x_pop, x_goto, x_ifeq, x_ifne, x_iflt, x_ifge, x_ifgt, x_ifle, x_cmpeq, x_cmpne, x_cmplt, x_cmpge, x_cmpgt, x_cmple, x_null, x_nonnull, x_acmpeq, x_acmpne, x_get, x_put, x_putz, x_ald, x_ast, x_bast, x_zast, x_aast, x_alen, x_obj, x_ret, x_retz, x_vret, x_max, x_min, x_copy, x_i2l, qg_none, qg_inl, qg_inr, qg_ite, xr1, xr0, xrE, xri, xl0, xl1, xl2, xl3, xl4, xl5, xl6, xl7, xl8, xl9, xl10, xs0, xs1, xs2, xs3, xs4, xs5, xs6, xs7, xs8, xs9, xs10, xi0, xi1, xi2, xi3, xi4, xi5, xi6, xi7, xi8, xi9, xi10, xc0, xc1, xc2, xc3, xc4, xc5, xc6, xc7, xv1, xv2, xv3, xv4, xv5, xv6, xv7, dT_le, dF_le, dT_lt, dF_lt, qa_free, xh3, xhrE1, x0, call]
  rfl
theorem l_readE2 {m m' : Int → Int → Int} {kd kd' : Int → Nat × Int} {w w' : Nat × Nat × Nat} {a b : Int} (x0 : kd 0 = (14, 0)) (call : f_X11_read [(1, 0), (0, a), (0, b)] (m, kd, w) = some (.inr 2, (m', kd', w'))) : qa_ev P_L_read 0 [(1, 0), (0, a), (0, b), (1, 91), (9, 0)] [] (m, kd, w) = some (.inl (some (0, 2)), (m', kd', w')) := by
  simp (disch := omega) [ev_L_read_0, ev_L_read_1, ev_L_read_2, ev_L_read_3, B_L_read_0, B_L_read_1, B_L_read_2, B_L_read_3, x_const, x_iadd, x_isub, x_imul, x_idiv, x_irem, x_ineg, x_dup, x_dup_x1, x_dup2, x_pop, x_goto, x_ifeq, x_ifne, x_iflt, x_ifge, x_ifgt, x_ifle, x_cmpeq, x_cmpne, x_cmplt, x_cmpge, x_cmpgt, x_cmple, x_null, x_nonnull, x_acmpeq, x_acmpne, x_get, x_put, x_putz, x_ald, x_ast, x_bast, x_zast, x_aast, x_alen, x_obj, x_ret, x_retz, x_vret, x_max, x_min, x_copy, x_i2l, qg_none, qg_inl, qg_inr, qg_ite, xr1, xr0, xrE, xri, xl0, xl1, xl2, xl3, xl4, xl5, xl6, xl7, xl8, xl9, xl10, xs0, xs1, xs2, xs3, xs4, xs5, xs6, xs7, xs8, xs9, xs10, xi0, xi1, xi2, xi3, xi4, xi5, xi6, xi7, xi8, xi9, xi10, xc0, xc1, xc2, xc3, xc4, xc5, xc6, xc7, xv1, xv2, xv3, xv4, xv5, xv6, xv7, dT_le, dF_le, dT_lt, dF_lt, qa_free, xh3, xhrE2 2 1 1 4 2 4 (by decide), x0, call]
  rfl
theorem lp_read {N : Int} {g : zG} {a b : Int} (h : PPub N g f_X11_read [(1, 0), (0, a), (0, b)] f_X12_read [(1, 77), (0, a), (0, b)] [(1, 1), (2, 2)]) : LPPub N g f_L_read [(1, 0), (0, a), (0, b), (1, 91)] f_X12_read [(1, 77), (0, a), (0, b)] := by
  obtain ⟨g', N', e, code, ans, h1, h2, h3, h4, C, M⟩ := h
  have hc : 0 ≤ code ∧ code ≤ 2 := by
    rcases h4 with ⟨_, z⟩ | ⟨_, hm⟩
    · omega
    · simp at hm
      omega
  refine ⟨g', N', code, ans, h1, h2, h3, hc, fun m kd n c s i k91 => ?_, M⟩
  obtain ⟨m', kd', n', c', s', e1, i1, i2, i3, i4, i5⟩ := C m kd n c s i
  have x0 := i.q.2.2.1
  have k91' : kd' 91 = (105, 1) := by rw [(i2 91 (by decide) (by decide)).2]; exact k91
  rcases h4 with ⟨z1, z2⟩ | ⟨h0, hm⟩
  · rw [if_pos z1] at e1
    rw [z2]
    exact ⟨qa_up m' 91 0 ans, kd', n', c', s', qa_fn_eq (l_read0 x0 k91' e1) (by simp; omega), CI_91 i1 0 ans, fun x a b => (i2 x a b).2, fun x a b c => by
      rw [← (i2 x a b).1]
      funext j
      exact qa_up_no _ (fun z => c z.1), fun _ => qa_up_hit _ _ _ _, i3, i4, i5⟩
  · rw [if_neg h0] at e1
    simp at hm
    rcases hm with hm | hm
    · obtain ⟨z1, z2⟩ := hm
      rw [z1] at e1
      rw [z2]
      exact ⟨m', kd', n', c', s', qa_fn_eq (l_readE1 x0 e1) (by simp; omega), i1, fun x a b => (i2 x a b).2, fun x a b _ => (i2 x a b).1, fun z => absurd z (by decide), i3, i4, i5⟩
    · obtain ⟨z1, z2⟩ := hm
      rw [z1] at e1
      rw [z2]
      exact ⟨m', kd', n', c', s', qa_fn_eq (l_readE2 x0 e1) (by simp; omega), i1, fun x a b => (i2 x a b).2, fun x a b _ => (i2 x a b).1, fun z => absurd z (by decide), i3, i4, i5⟩
theorem l_promise0 {m m' : Int → Int → Int} {kd kd' : Int → Nat × Int} {w w' : Nat × Nat × Nat} {a b v : Int} (x0 : kd 0 = (14, 0)) (k91 : kd' 91 = (105, 1)) (call : f_X11_promise [(1, 0), (0, a), (0, b)] (m, kd, w) = some (.inl (some (0, v)), (m', kd', w'))) : qa_ev P_L_promise 0 [(1, 0), (0, a), (0, b), (1, 91), (9, 0)] [] (m, kd, w) = some (.inl (some (0, 0)), (qa_up m' 91 0 v, kd', w')) := by
  simp (disch := omega) [ev_L_promise_0, ev_L_promise_1, ev_L_promise_2, ev_L_promise_3, B_L_promise_0, B_L_promise_1, B_L_promise_2, B_L_promise_3, x_const, x_iadd, x_isub, x_imul, x_idiv, x_irem, x_ineg, x_dup, x_dup_x1, x_dup2, x_pop, x_goto, x_ifeq, x_ifne, x_iflt, x_ifge, x_ifgt, x_ifle, x_cmpeq, x_cmpne, x_cmplt, x_cmpge, x_cmpgt, x_cmple, x_null, x_nonnull, x_acmpeq, x_acmpne, x_get, x_put, x_putz, x_ald, x_ast, x_bast, x_zast, x_aast, x_alen, x_obj, x_ret, x_retz, x_vret, x_max, x_min, x_copy, x_i2l, qg_none, qg_inl, qg_inr, qg_ite, xr1, xr0, xrE, xri, xl0, xl1, xl2, xl3, xl4, xl5, xl6, xl7, xl8, xl9, xl10, xs0, xs1, xs2, xs3, xs4, xs5, xs6, xs7, xs8, xs9, xs10, xi0, xi1, xi2, xi3, xi4, xi5, xi6, xi7, xi8, xi9, xi10, xc0, xc1, xc2, xc3, xc4, xc5, xc6, xc7, xv1, xv2, xv3, xv4, xv5, xv6, xv7, dT_le, dF_le, dT_lt, dF_lt, xhr1, xhrE1, qa_free, xh3, x0, k91, call]
theorem l_promiseE1 {m m' : Int → Int → Int} {kd kd' : Int → Nat × Int} {w w' : Nat × Nat × Nat} {a b : Int} (x0 : kd 0 = (14, 0)) (call : f_X11_promise [(1, 0), (0, a), (0, b)] (m, kd, w) = some (.inr 1, (m', kd', w'))) : qa_ev P_L_promise 0 [(1, 0), (0, a), (0, b), (1, 91), (9, 0)] [] (m, kd, w) = some (.inl (some (0, 1)), (m', kd', w')) := by
  simp (disch := omega) [ev_L_promise_0, ev_L_promise_1, ev_L_promise_2, ev_L_promise_3, B_L_promise_0, B_L_promise_1, B_L_promise_2, B_L_promise_3, x_const, x_iadd, x_isub, x_imul, x_idiv, x_irem, x_ineg, x_dup, x_dup_x1, x_dup2, x_pop, x_goto, x_ifeq, x_ifne, x_iflt, x_ifge, x_ifgt, x_ifle, x_cmpeq, x_cmpne, x_cmplt, x_cmpge, x_cmpgt, x_cmple, x_null, x_nonnull, x_acmpeq, x_acmpne, x_get, x_put, x_putz, x_ald, x_ast, x_bast, x_zast, x_aast, x_alen, x_obj, x_ret, x_retz, x_vret, x_max, x_min, x_copy, x_i2l, qg_none, qg_inl, qg_inr, qg_ite, xr1, xr0, xrE, xri, xl0, xl1, xl2, xl3, xl4, xl5, xl6, xl7, xl8, xl9, xl10, xs0, xs1, xs2, xs3, xs4, xs5, xs6, xs7, xs8, xs9, xs10, xi0, xi1, xi2, xi3, xi4, xi5, xi6, xi7, xi8, xi9, xi10, xc0, xc1, xc2, xc3, xc4, xc5, xc6, xc7, xv1, xv2, xv3, xv4, xv5, xv6, xv7, dT_le, dF_le, dT_lt, dF_lt, qa_free, xh3, xhrE1, x0, call]
  rfl
theorem l_promiseE2 {m m' : Int → Int → Int} {kd kd' : Int → Nat × Int} {w w' : Nat × Nat × Nat} {a b : Int} (x0 : kd 0 = (14, 0)) (call : f_X11_promise [(1, 0), (0, a), (0, b)] (m, kd, w) = some (.inr 2, (m', kd', w'))) : qa_ev P_L_promise 0 [(1, 0), (0, a), (0, b), (1, 91), (9, 0)] [] (m, kd, w) = some (.inl (some (0, 2)), (m', kd', w')) := by
  simp (disch := omega) [ev_L_promise_0, ev_L_promise_1, ev_L_promise_2, ev_L_promise_3, B_L_promise_0, B_L_promise_1, B_L_promise_2, B_L_promise_3, x_const, x_iadd, x_isub, x_imul, x_idiv, x_irem, x_ineg, x_dup, x_dup_x1, x_dup2, x_pop, x_goto, x_ifeq, x_ifne, x_iflt, x_ifge, x_ifgt, x_ifle, x_cmpeq, x_cmpne, x_cmplt, x_cmpge, x_cmpgt, x_cmple, x_null, x_nonnull, x_acmpeq, x_acmpne, x_get, x_put, x_putz, x_ald, x_ast, x_bast, x_zast, x_aast, x_alen, x_obj, x_ret, x_retz, x_vret, x_max, x_min, x_copy, x_i2l, qg_none, qg_inl, qg_inr, qg_ite, xr1, xr0, xrE, xri, xl0, xl1, xl2, xl3, xl4, xl5, xl6, xl7, xl8, xl9, xl10, xs0, xs1, xs2, xs3, xs4, xs5, xs6, xs7, xs8, xs9, xs10, xi0, xi1, xi2, xi3, xi4, xi5, xi6, xi7, xi8, xi9, xi10, xc0, xc1, xc2, xc3, xc4, xc5, xc6, xc7, xv1, xv2, xv3, xv4, xv5, xv6, xv7, dT_le, dF_le, dT_lt, dF_lt, qa_free, xh3, xhrE2 2 1 1 4 2 4 (by decide), x0, call]
  rfl
theorem lp_promise {N : Int} {g : zG} {a b : Int} (h : PPub N g f_X11_promise [(1, 0), (0, a), (0, b)] f_X12_promise [(1, 77), (0, a), (0, b)] [(1, 1), (2, 2)]) : LPPub N g f_L_promise [(1, 0), (0, a), (0, b), (1, 91)] f_X12_promise [(1, 77), (0, a), (0, b)] := by
  obtain ⟨g', N', e, code, ans, h1, h2, h3, h4, C, M⟩ := h
  have hc : 0 ≤ code ∧ code ≤ 2 := by
    rcases h4 with ⟨_, z⟩ | ⟨_, hm⟩
    · omega
    · simp at hm
      omega
  refine ⟨g', N', code, ans, h1, h2, h3, hc, fun m kd n c s i k91 => ?_, M⟩
  obtain ⟨m', kd', n', c', s', e1, i1, i2, i3, i4, i5⟩ := C m kd n c s i
  have x0 := i.q.2.2.1
  have k91' : kd' 91 = (105, 1) := by rw [(i2 91 (by decide) (by decide)).2]; exact k91
  rcases h4 with ⟨z1, z2⟩ | ⟨h0, hm⟩
  · rw [if_pos z1] at e1
    rw [z2]
    exact ⟨qa_up m' 91 0 ans, kd', n', c', s', qa_fn_eq (l_promise0 x0 k91' e1) (by simp; omega), CI_91 i1 0 ans, fun x a b => (i2 x a b).2, fun x a b c => by
      rw [← (i2 x a b).1]
      funext j
      exact qa_up_no _ (fun z => c z.1), fun _ => qa_up_hit _ _ _ _, i3, i4, i5⟩
  · rw [if_neg h0] at e1
    simp at hm
    rcases hm with hm | hm
    · obtain ⟨z1, z2⟩ := hm
      rw [z1] at e1
      rw [z2]
      exact ⟨m', kd', n', c', s', qa_fn_eq (l_promiseE1 x0 e1) (by simp; omega), i1, fun x a b => (i2 x a b).2, fun x a b _ => (i2 x a b).1, fun z => absurd z (by decide), i3, i4, i5⟩
    · obtain ⟨z1, z2⟩ := hm
      rw [z1] at e1
      rw [z2]
      exact ⟨m', kd', n', c', s', qa_fn_eq (l_promiseE2 x0 e1) (by simp; omega), i1, fun x a b => (i2 x a b).2, fun x a b _ => (i2 x a b).1, fun z => absurd z (by decide), i3, i4, i5⟩
theorem l_move0 {m m' : Int → Int → Int} {kd kd' : Int → Nat × Int} {w w' : Nat × Nat × Nat} {a b v : Int} (x0 : kd 0 = (14, 0)) (k91 : kd' 91 = (105, 1)) (call : f_X11_move [(1, 0), (0, a), (0, b)] (m, kd, w) = some (.inl (some (0, v)), (m', kd', w'))) : qa_ev P_L_move 0 [(1, 0), (0, a), (0, b), (1, 91), (9, 0)] [] (m, kd, w) = some (.inl (some (0, 0)), (qa_up m' 91 0 v, kd', w')) := by
  simp (disch := omega) [ev_L_move_0, ev_L_move_1, ev_L_move_2, B_L_move_0, B_L_move_1, B_L_move_2, x_const, x_iadd, x_isub, x_imul, x_idiv, x_irem, x_ineg, x_dup, x_dup_x1, x_dup2, x_pop, x_goto, x_ifeq, x_ifne, x_iflt, x_ifge, x_ifgt, x_ifle, x_cmpeq, x_cmpne, x_cmplt, x_cmpge, x_cmpgt, x_cmple, x_null, x_nonnull, x_acmpeq, x_acmpne, x_get, x_put, x_putz, x_ald, x_ast, x_bast, x_zast, x_aast, x_alen, x_obj, x_ret, x_retz, x_vret, x_max, x_min, x_copy, x_i2l, qg_none, qg_inl, qg_inr, qg_ite, xr1, xr0, xrE, xri, xl0, xl1, xl2, xl3, xl4, xl5, xl6, xl7, xl8, xl9, xl10, xs0, xs1, xs2, xs3, xs4, xs5, xs6, xs7, xs8, xs9, xs10, xi0, xi1, xi2, xi3, xi4, xi5, xi6, xi7, xi8, xi9, xi10, xc0, xc1, xc2, xc3, xc4, xc5, xc6, xc7, xv1, xv2, xv3, xv4, xv5, xv6, xv7, dT_le, dF_le, dT_lt, dF_lt, xhr1, xhrE1, qa_free, xh3, x0, k91, call]
theorem l_moveE1 {m m' : Int → Int → Int} {kd kd' : Int → Nat × Int} {w w' : Nat × Nat × Nat} {a b : Int} (x0 : kd 0 = (14, 0)) (call : f_X11_move [(1, 0), (0, a), (0, b)] (m, kd, w) = some (.inr 1, (m', kd', w'))) : qa_ev P_L_move 0 [(1, 0), (0, a), (0, b), (1, 91), (9, 0)] [] (m, kd, w) = some (.inl (some (0, 1)), (m', kd', w')) := by
  simp (disch := omega) [ev_L_move_0, ev_L_move_1, ev_L_move_2, B_L_move_0, B_L_move_1, B_L_move_2, x_const, x_iadd, x_isub, x_imul, x_idiv, x_irem, x_ineg, x_dup, x_dup_x1, x_dup2, x_pop, x_goto, x_ifeq, x_ifne, x_iflt, x_ifge, x_ifgt, x_ifle, x_cmpeq, x_cmpne, x_cmplt, x_cmpge, x_cmpgt, x_cmple, x_null, x_nonnull, x_acmpeq, x_acmpne, x_get, x_put, x_putz, x_ald, x_ast, x_bast, x_zast, x_aast, x_alen, x_obj, x_ret, x_retz, x_vret, x_max, x_min, x_copy, x_i2l, qg_none, qg_inl, qg_inr, qg_ite, xr1, xr0, xrE, xri, xl0, xl1, xl2, xl3, xl4, xl5, xl6, xl7, xl8, xl9, xl10, xs0, xs1, xs2, xs3, xs4, xs5, xs6, xs7, xs8, xs9, xs10, xi0, xi1, xi2, xi3, xi4, xi5, xi6, xi7, xi8, xi9, xi10, xc0, xc1, xc2, xc3, xc4, xc5, xc6, xc7, xv1, xv2, xv3, xv4, xv5, xv6, xv7, dT_le, dF_le, dT_lt, dF_lt, qa_free, xh3, xhrE1, x0, call]
  rfl
theorem lp_move {N : Int} {g : zG} {a b : Int} (h : PPub N g f_X11_move [(1, 0), (0, a), (0, b)] f_X12_move [(1, 77), (0, a), (0, b)] [(1, 1)]) : LPPub N g f_L_move [(1, 0), (0, a), (0, b), (1, 91)] f_X12_move [(1, 77), (0, a), (0, b)] := by
  obtain ⟨g', N', e, code, ans, h1, h2, h3, h4, C, M⟩ := h
  have hc : 0 ≤ code ∧ code ≤ 2 := by
    rcases h4 with ⟨_, z⟩ | ⟨_, hm⟩
    · omega
    · simp at hm
      omega
  refine ⟨g', N', code, ans, h1, h2, h3, hc, fun m kd n c s i k91 => ?_, M⟩
  obtain ⟨m', kd', n', c', s', e1, i1, i2, i3, i4, i5⟩ := C m kd n c s i
  have x0 := i.q.2.2.1
  have k91' : kd' 91 = (105, 1) := by rw [(i2 91 (by decide) (by decide)).2]; exact k91
  rcases h4 with ⟨z1, z2⟩ | ⟨h0, hm⟩
  · rw [if_pos z1] at e1
    rw [z2]
    exact ⟨qa_up m' 91 0 ans, kd', n', c', s', qa_fn_eq (l_move0 x0 k91' e1) (by simp; omega), CI_91 i1 0 ans, fun x a b => (i2 x a b).2, fun x a b c => by
      rw [← (i2 x a b).1]
      funext j
      exact qa_up_no _ (fun z => c z.1), fun _ => qa_up_hit _ _ _ _, i3, i4, i5⟩
  · rw [if_neg h0] at e1
    simp at hm
    obtain ⟨z1, z2⟩ := hm
    rw [z1] at e1
    rw [z2]
    exact ⟨m', kd', n', c', s', qa_fn_eq (l_moveE1 x0 e1) (by simp; omega), i1, fun x a b => (i2 x a b).2, fun x a b _ => (i2 x a b).1, fun z => absurd z (by decide), i3, i4, i5⟩
theorem l_fork0 {m m' : Int → Int → Int} {kd kd' : Int → Nat × Int} {w w' : Nat × Nat × Nat} {a v : Int} (x0 : kd 0 = (14, 0)) (k91 : kd' 91 = (105, 1)) (call : f_X11_fork [(1, 0), (0, a)] (m, kd, w) = some (.inl (some (0, v)), (m', kd', w'))) : qa_ev P_L_fork 0 [(1, 0), (0, a), (1, 91), (9, 0)] [] (m, kd, w) = some (.inl (some (0, 0)), (qa_up m' 91 0 v, kd', w')) := by
  simp (disch := omega) [ev_L_fork_0, ev_L_fork_1, ev_L_fork_2, B_L_fork_0, B_L_fork_1, B_L_fork_2, x_const, x_iadd, x_isub, x_imul, x_idiv, x_irem, x_ineg, x_dup, x_dup_x1, x_dup2, x_pop, x_goto, x_ifeq, x_ifne, x_iflt, x_ifge, x_ifgt, x_ifle, x_cmpeq, x_cmpne, x_cmplt, x_cmpge, x_cmpgt, x_cmple, x_null, x_nonnull, x_acmpeq, x_acmpne, x_get, x_put, x_putz, x_ald, x_ast, x_bast, x_zast, x_aast, x_alen, x_obj, x_ret, x_retz, x_vret, x_max, x_min, x_copy, x_i2l, qg_none, qg_inl, qg_inr, qg_ite, xr1, xr0, xrE, xri, xl0, xl1, xl2, xl3, xl4, xl5, xl6, xl7, xl8, xl9, xl10, xs0, xs1, xs2, xs3, xs4, xs5, xs6, xs7, xs8, xs9, xs10, xi0, xi1, xi2, xi3, xi4, xi5, xi6, xi7, xi8, xi9, xi10, xc0, xc1, xc2, xc3, xc4, xc5, xc6, xc7, xv1, xv2, xv3, xv4, xv5, xv6, xv7, dT_le, dF_le, dT_lt, dF_lt, xhr1, xhrE1, qa_free, xh2, x0, k91, call]
theorem l_forkE1 {m m' : Int → Int → Int} {kd kd' : Int → Nat × Int} {w w' : Nat × Nat × Nat} {a : Int} (x0 : kd 0 = (14, 0)) (call : f_X11_fork [(1, 0), (0, a)] (m, kd, w) = some (.inr 1, (m', kd', w'))) : qa_ev P_L_fork 0 [(1, 0), (0, a), (1, 91), (9, 0)] [] (m, kd, w) = some (.inl (some (0, 1)), (m', kd', w')) := by
  simp (disch := omega) [ev_L_fork_0, ev_L_fork_1, ev_L_fork_2, B_L_fork_0, B_L_fork_1, B_L_fork_2, x_const, x_iadd, x_isub, x_imul, x_idiv, x_irem, x_ineg, x_dup, x_dup_x1, x_dup2, x_pop, x_goto, x_ifeq, x_ifne, x_iflt, x_ifge, x_ifgt, x_ifle, x_cmpeq, x_cmpne, x_cmplt, x_cmpge, x_cmpgt, x_cmple, x_null, x_nonnull, x_acmpeq, x_acmpne, x_get, x_put, x_putz, x_ald, x_ast, x_bast, x_zast, x_aast, x_alen, x_obj, x_ret, x_retz, x_vret, x_max, x_min, x_copy, x_i2l, qg_none, qg_inl, qg_inr, qg_ite, xr1, xr0, xrE, xri, xl0, xl1, xl2, xl3, xl4, xl5, xl6, xl7, xl8, xl9, xl10, xs0, xs1, xs2, xs3, xs4, xs5, xs6, xs7, xs8, xs9, xs10, xi0, xi1, xi2, xi3, xi4, xi5, xi6, xi7, xi8, xi9, xi10, xc0, xc1, xc2, xc3, xc4, xc5, xc6, xc7, xv1, xv2, xv3, xv4, xv5, xv6, xv7, dT_le, dF_le, dT_lt, dF_lt, qa_free, xh2, xhrE1, x0, call]
  rfl
theorem lp_fork {N : Int} {g : zG} {a : Int} (h : PPub N g f_X11_fork [(1, 0), (0, a)] f_X12_fork [(1, 77), (0, a)] [(1, 1)]) : LPPub N g f_L_fork [(1, 0), (0, a), (1, 91)] f_X12_fork [(1, 77), (0, a)] := by
  obtain ⟨g', N', e, code, ans, h1, h2, h3, h4, C, M⟩ := h
  have hc : 0 ≤ code ∧ code ≤ 2 := by
    rcases h4 with ⟨_, z⟩ | ⟨_, hm⟩
    · omega
    · simp at hm
      omega
  refine ⟨g', N', code, ans, h1, h2, h3, hc, fun m kd n c s i k91 => ?_, M⟩
  obtain ⟨m', kd', n', c', s', e1, i1, i2, i3, i4, i5⟩ := C m kd n c s i
  have x0 := i.q.2.2.1
  have k91' : kd' 91 = (105, 1) := by rw [(i2 91 (by decide) (by decide)).2]; exact k91
  rcases h4 with ⟨z1, z2⟩ | ⟨h0, hm⟩
  · rw [if_pos z1] at e1
    rw [z2]
    exact ⟨qa_up m' 91 0 ans, kd', n', c', s', qa_fn_eq (l_fork0 x0 k91' e1) (by simp; omega), CI_91 i1 0 ans, fun x a b => (i2 x a b).2, fun x a b c => by
      rw [← (i2 x a b).1]
      funext j
      exact qa_up_no _ (fun z => c z.1), fun _ => qa_up_hit _ _ _ _, i3, i4, i5⟩
  · rw [if_neg h0] at e1
    simp at hm
    obtain ⟨z1, z2⟩ := hm
    rw [z1] at e1
    rw [z2]
    exact ⟨m', kd', n', c', s', qa_fn_eq (l_forkE1 x0 e1) (by simp; omega), i1, fun x a b => (i2 x a b).2, fun x a b _ => (i2 x a b).1, fun z => absurd z (by decide), i3, i4, i5⟩
theorem l_merge0 {m m' : Int → Int → Int} {kd kd' : Int → Nat × Int} {w w' : Nat × Nat × Nat} {a v : Int} (x0 : kd 0 = (14, 0)) (k91 : kd' 91 = (105, 1)) (call : f_X11_merge [(1, 0), (0, a)] (m, kd, w) = some (.inl (some (0, v)), (m', kd', w'))) : qa_ev P_L_merge 0 [(1, 0), (0, a), (1, 91), (9, 0)] [] (m, kd, w) = some (.inl (some (0, 0)), (qa_up m' 91 0 v, kd', w')) := by
  simp (disch := omega) [ev_L_merge_0, ev_L_merge_1, ev_L_merge_2, B_L_merge_0, B_L_merge_1, B_L_merge_2, x_const, x_iadd, x_isub, x_imul, x_idiv, x_irem, x_ineg, x_dup, x_dup_x1, x_dup2, x_pop, x_goto, x_ifeq, x_ifne, x_iflt, x_ifge, x_ifgt, x_ifle, x_cmpeq, x_cmpne, x_cmplt, x_cmpge, x_cmpgt, x_cmple, x_null, x_nonnull, x_acmpeq, x_acmpne, x_get, x_put, x_putz, x_ald, x_ast, x_bast, x_zast, x_aast, x_alen, x_obj, x_ret, x_retz, x_vret, x_max, x_min, x_copy, x_i2l, qg_none, qg_inl, qg_inr, qg_ite, xr1, xr0, xrE, xri, xl0, xl1, xl2, xl3, xl4, xl5, xl6, xl7, xl8, xl9, xl10, xs0, xs1, xs2, xs3, xs4, xs5, xs6, xs7, xs8, xs9, xs10, xi0, xi1, xi2, xi3, xi4, xi5, xi6, xi7, xi8, xi9, xi10, xc0, xc1, xc2, xc3, xc4, xc5, xc6, xc7, xv1, xv2, xv3, xv4, xv5, xv6, xv7, dT_le, dF_le, dT_lt, dF_lt, xhr1, xhrE1, qa_free, xh2, x0, k91, call]
theorem l_mergeE1 {m m' : Int → Int → Int} {kd kd' : Int → Nat × Int} {w w' : Nat × Nat × Nat} {a : Int} (x0 : kd 0 = (14, 0)) (call : f_X11_merge [(1, 0), (0, a)] (m, kd, w) = some (.inr 1, (m', kd', w'))) : qa_ev P_L_merge 0 [(1, 0), (0, a), (1, 91), (9, 0)] [] (m, kd, w) = some (.inl (some (0, 1)), (m', kd', w')) := by
  simp (disch := omega) [ev_L_merge_0, ev_L_merge_1, ev_L_merge_2, B_L_merge_0, B_L_merge_1, B_L_merge_2, x_const, x_iadd, x_isub, x_imul, x_idiv, x_irem, x_ineg, x_dup, x_dup_x1, x_dup2, x_pop, x_goto, x_ifeq, x_ifne, x_iflt, x_ifge, x_ifgt, x_ifle, x_cmpeq, x_cmpne, x_cmplt, x_cmpge, x_cmpgt, x_cmple, x_null, x_nonnull, x_acmpeq, x_acmpne, x_get, x_put, x_putz, x_ald, x_ast, x_bast, x_zast, x_aast, x_alen, x_obj, x_ret, x_retz, x_vret, x_max, x_min, x_copy, x_i2l, qg_none, qg_inl, qg_inr, qg_ite, xr1, xr0, xrE, xri, xl0, xl1, xl2, xl3, xl4, xl5, xl6, xl7, xl8, xl9, xl10, xs0, xs1, xs2, xs3, xs4, xs5, xs6, xs7, xs8, xs9, xs10, xi0, xi1, xi2, xi3, xi4, xi5, xi6, xi7, xi8, xi9, xi10, xc0, xc1, xc2, xc3, xc4, xc5, xc6, xc7, xv1, xv2, xv3, xv4, xv5, xv6, xv7, dT_le, dF_le, dT_lt, dF_lt, qa_free, xh2, xhrE1, x0, call]
  rfl
theorem lp_merge {N : Int} {g : zG} {a : Int} (h : PPub N g f_X11_merge [(1, 0), (0, a)] f_X12_merge [(1, 77), (0, a)] [(1, 1)]) : LPPub N g f_L_merge [(1, 0), (0, a), (1, 91)] f_X12_merge [(1, 77), (0, a)] := by
  obtain ⟨g', N', e, code, ans, h1, h2, h3, h4, C, M⟩ := h
  have hc : 0 ≤ code ∧ code ≤ 2 := by
    rcases h4 with ⟨_, z⟩ | ⟨_, hm⟩
    · omega
    · simp at hm
      omega
  refine ⟨g', N', code, ans, h1, h2, h3, hc, fun m kd n c s i k91 => ?_, M⟩
  obtain ⟨m', kd', n', c', s', e1, i1, i2, i3, i4, i5⟩ := C m kd n c s i
  have x0 := i.q.2.2.1
  have k91' : kd' 91 = (105, 1) := by rw [(i2 91 (by decide) (by decide)).2]; exact k91
  rcases h4 with ⟨z1, z2⟩ | ⟨h0, hm⟩
  · rw [if_pos z1] at e1
    rw [z2]
    exact ⟨qa_up m' 91 0 ans, kd', n', c', s', qa_fn_eq (l_merge0 x0 k91' e1) (by simp; omega), CI_91 i1 0 ans, fun x a b => (i2 x a b).2, fun x a b c => by
      rw [← (i2 x a b).1]
      funext j
      exact qa_up_no _ (fun z => c z.1), fun _ => qa_up_hit _ _ _ _, i3, i4, i5⟩
  · rw [if_neg h0] at e1
    simp at hm
    obtain ⟨z1, z2⟩ := hm
    rw [z1] at e1
    rw [z2]
    exact ⟨m', kd', n', c', s', qa_fn_eq (l_mergeE1 x0 e1) (by simp; omega), i1, fun x a b => (i2 x a b).2, fun x a b _ => (i2 x a b).1, fun z => absurd z (by decide), i3, i4, i5⟩
theorem l_drop0 {m m' : Int → Int → Int} {kd kd' : Int → Nat × Int} {w w' : Nat × Nat × Nat} {a v : Int} (x0 : kd 0 = (14, 0)) (k91 : kd' 91 = (105, 1)) (call : f_X11_drop [(1, 0), (0, a)] (m, kd, w) = some (.inl (some (0, v)), (m', kd', w'))) : qa_ev P_L_drop 0 [(1, 0), (0, a), (1, 91), (9, 0)] [] (m, kd, w) = some (.inl (some (0, 0)), (qa_up m' 91 0 v, kd', w')) := by
  simp (disch := omega) [ev_L_drop_0, ev_L_drop_1, ev_L_drop_2, B_L_drop_0, B_L_drop_1, B_L_drop_2, x_const, x_iadd, x_isub, x_imul, x_idiv, x_irem, x_ineg, x_dup, x_dup_x1, x_dup2, x_pop, x_goto, x_ifeq, x_ifne, x_iflt, x_ifge, x_ifgt, x_ifle, x_cmpeq, x_cmpne, x_cmplt, x_cmpge, x_cmpgt, x_cmple, x_null, x_nonnull, x_acmpeq, x_acmpne, x_get, x_put, x_putz, x_ald, x_ast, x_bast, x_zast, x_aast, x_alen, x_obj, x_ret, x_retz, x_vret, x_max, x_min, x_copy, x_i2l, qg_none, qg_inl, qg_inr, qg_ite, xr1, xr0, xrE, xri, xl0, xl1, xl2, xl3, xl4, xl5, xl6, xl7, xl8, xl9, xl10, xs0, xs1, xs2, xs3, xs4, xs5, xs6, xs7, xs8, xs9, xs10, xi0, xi1, xi2, xi3, xi4, xi5, xi6, xi7, xi8, xi9, xi10, xc0, xc1, xc2, xc3, xc4, xc5, xc6, xc7, xv1, xv2, xv3, xv4, xv5, xv6, xv7, dT_le, dF_le, dT_lt, dF_lt, xhr1, xhrE1, qa_free, xh2, x0, k91, call]
theorem l_dropE1 {m m' : Int → Int → Int} {kd kd' : Int → Nat × Int} {w w' : Nat × Nat × Nat} {a : Int} (x0 : kd 0 = (14, 0)) (call : f_X11_drop [(1, 0), (0, a)] (m, kd, w) = some (.inr 1, (m', kd', w'))) : qa_ev P_L_drop 0 [(1, 0), (0, a), (1, 91), (9, 0)] [] (m, kd, w) = some (.inl (some (0, 1)), (m', kd', w')) := by
  simp (disch := omega) [ev_L_drop_0, ev_L_drop_1, ev_L_drop_2, B_L_drop_0, B_L_drop_1, B_L_drop_2, x_const, x_iadd, x_isub, x_imul, x_idiv, x_irem, x_ineg, x_dup, x_dup_x1, x_dup2, x_pop, x_goto, x_ifeq, x_ifne, x_iflt, x_ifge, x_ifgt, x_ifle, x_cmpeq, x_cmpne, x_cmplt, x_cmpge, x_cmpgt, x_cmple, x_null, x_nonnull, x_acmpeq, x_acmpne, x_get, x_put, x_putz, x_ald, x_ast, x_bast, x_zast, x_aast, x_alen, x_obj, x_ret, x_retz, x_vret, x_max, x_min, x_copy, x_i2l, qg_none, qg_inl, qg_inr, qg_ite, xr1, xr0, xrE, xri, xl0, xl1, xl2, xl3, xl4, xl5, xl6, xl7, xl8, xl9, xl10, xs0, xs1, xs2, xs3, xs4, xs5, xs6, xs7, xs8, xs9, xs10, xi0, xi1, xi2, xi3, xi4, xi5, xi6, xi7, xi8, xi9, xi10, xc0, xc1, xc2, xc3, xc4, xc5, xc6, xc7, xv1, xv2, xv3, xv4, xv5, xv6, xv7, dT_le, dF_le, dT_lt, dF_lt, qa_free, xh2, xhrE1, x0, call]
  rfl
theorem lp_drop {N : Int} {g : zG} {a : Int} (h : PPub N g f_X11_drop [(1, 0), (0, a)] f_X12_drop [(1, 77), (0, a)] [(1, 1)]) : LPPub N g f_L_drop [(1, 0), (0, a), (1, 91)] f_X12_drop [(1, 77), (0, a)] := by
  obtain ⟨g', N', e, code, ans, h1, h2, h3, h4, C, M⟩ := h
  have hc : 0 ≤ code ∧ code ≤ 2 := by
    rcases h4 with ⟨_, z⟩ | ⟨_, hm⟩
    · omega
    · simp at hm
      omega
  refine ⟨g', N', code, ans, h1, h2, h3, hc, fun m kd n c s i k91 => ?_, M⟩
  obtain ⟨m', kd', n', c', s', e1, i1, i2, i3, i4, i5⟩ := C m kd n c s i
  have x0 := i.q.2.2.1
  have k91' : kd' 91 = (105, 1) := by rw [(i2 91 (by decide) (by decide)).2]; exact k91
  rcases h4 with ⟨z1, z2⟩ | ⟨h0, hm⟩
  · rw [if_pos z1] at e1
    rw [z2]
    exact ⟨qa_up m' 91 0 ans, kd', n', c', s', qa_fn_eq (l_drop0 x0 k91' e1) (by simp; omega), CI_91 i1 0 ans, fun x a b => (i2 x a b).2, fun x a b c => by
      rw [← (i2 x a b).1]
      funext j
      exact qa_up_no _ (fun z => c z.1), fun _ => qa_up_hit _ _ _ _, i3, i4, i5⟩
  · rw [if_neg h0] at e1
    simp at hm
    obtain ⟨z1, z2⟩ := hm
    rw [z1] at e1
    rw [z2]
    exact ⟨m', kd', n', c', s', qa_fn_eq (l_dropE1 x0 e1) (by simp; omega), i1, fun x a b => (i2 x a b).2, fun x a b _ => (i2 x a b).1, fun z => absurd z (by decide), i3, i4, i5⟩
theorem l_pass0 {m m' : Int → Int → Int} {kd kd' : Int → Nat × Int} {w w' : Nat × Nat × Nat} {a v : Int} (x0 : kd 0 = (14, 0)) (k91 : kd' 91 = (105, 1)) (call : f_X11_pass [(1, 0), (0, a)] (m, kd, w) = some (.inl (some (0, v)), (m', kd', w'))) : qa_ev P_L_pass 0 [(1, 0), (0, a), (1, 91), (9, 0)] [] (m, kd, w) = some (.inl (some (0, 0)), (qa_up m' 91 0 v, kd', w')) := by
  simp (disch := omega) [ev_L_pass_0, ev_L_pass_1, ev_L_pass_2, B_L_pass_0, B_L_pass_1, B_L_pass_2, x_const, x_iadd, x_isub, x_imul, x_idiv, x_irem, x_ineg, x_dup, x_dup_x1, x_dup2, x_pop, x_goto, x_ifeq, x_ifne, x_iflt, x_ifge, x_ifgt, x_ifle, x_cmpeq, x_cmpne, x_cmplt, x_cmpge, x_cmpgt, x_cmple, x_null, x_nonnull, x_acmpeq, x_acmpne, x_get, x_put, x_putz, x_ald, x_ast, x_bast, x_zast, x_aast, x_alen, x_obj, x_ret, x_retz, x_vret, x_max, x_min, x_copy, x_i2l, qg_none, qg_inl, qg_inr, qg_ite, xr1, xr0, xrE, xri, xl0, xl1, xl2, xl3, xl4, xl5, xl6, xl7, xl8, xl9, xl10, xs0, xs1, xs2, xs3, xs4, xs5, xs6, xs7, xs8, xs9, xs10, xi0, xi1, xi2, xi3, xi4, xi5, xi6, xi7, xi8, xi9, xi10, xc0, xc1, xc2, xc3, xc4, xc5, xc6, xc7, xv1, xv2, xv3, xv4, xv5, xv6, xv7, dT_le, dF_le, dT_lt, dF_lt, xhr1, xhrE1, qa_free, xh2, x0, k91, call]
theorem l_passE2 {m m' : Int → Int → Int} {kd kd' : Int → Nat × Int} {w w' : Nat × Nat × Nat} {a : Int} (x0 : kd 0 = (14, 0)) (call : f_X11_pass [(1, 0), (0, a)] (m, kd, w) = some (.inr 2, (m', kd', w'))) : qa_ev P_L_pass 0 [(1, 0), (0, a), (1, 91), (9, 0)] [] (m, kd, w) = some (.inl (some (0, 1)), (m', kd', w')) := by
  simp (disch := omega) [ev_L_pass_0, ev_L_pass_1, ev_L_pass_2, B_L_pass_0, B_L_pass_1, B_L_pass_2, x_const, x_iadd, x_isub, x_imul, x_idiv, x_irem, x_ineg, x_dup, x_dup_x1, x_dup2, x_pop, x_goto, x_ifeq, x_ifne, x_iflt, x_ifge, x_ifgt, x_ifle, x_cmpeq, x_cmpne, x_cmplt, x_cmpge, x_cmpgt, x_cmple, x_null, x_nonnull, x_acmpeq, x_acmpne, x_get, x_put, x_putz, x_ald, x_ast, x_bast, x_zast, x_aast, x_alen, x_obj, x_ret, x_retz, x_vret, x_max, x_min, x_copy, x_i2l, qg_none, qg_inl, qg_inr, qg_ite, xr1, xr0, xrE, xri, xl0, xl1, xl2, xl3, xl4, xl5, xl6, xl7, xl8, xl9, xl10, xs0, xs1, xs2, xs3, xs4, xs5, xs6, xs7, xs8, xs9, xs10, xi0, xi1, xi2, xi3, xi4, xi5, xi6, xi7, xi8, xi9, xi10, xc0, xc1, xc2, xc3, xc4, xc5, xc6, xc7, xv1, xv2, xv3, xv4, xv5, xv6, xv7, dT_le, dF_le, dT_lt, dF_lt, qa_free, xh2, xhrE1, x0, call]
  rfl
theorem lp_pass {N : Int} {g : zG} {a : Int} (h : PPub N g f_X11_pass [(1, 0), (0, a)] f_X12_pass [(1, 77), (0, a)] [(2, 1)]) : LPPub N g f_L_pass [(1, 0), (0, a), (1, 91)] f_X12_pass [(1, 77), (0, a)] := by
  obtain ⟨g', N', e, code, ans, h1, h2, h3, h4, C, M⟩ := h
  have hc : 0 ≤ code ∧ code ≤ 2 := by
    rcases h4 with ⟨_, z⟩ | ⟨_, hm⟩
    · omega
    · simp at hm
      omega
  refine ⟨g', N', code, ans, h1, h2, h3, hc, fun m kd n c s i k91 => ?_, M⟩
  obtain ⟨m', kd', n', c', s', e1, i1, i2, i3, i4, i5⟩ := C m kd n c s i
  have x0 := i.q.2.2.1
  have k91' : kd' 91 = (105, 1) := by rw [(i2 91 (by decide) (by decide)).2]; exact k91
  rcases h4 with ⟨z1, z2⟩ | ⟨h0, hm⟩
  · rw [if_pos z1] at e1
    rw [z2]
    exact ⟨qa_up m' 91 0 ans, kd', n', c', s', qa_fn_eq (l_pass0 x0 k91' e1) (by simp; omega), CI_91 i1 0 ans, fun x a b => (i2 x a b).2, fun x a b c => by
      rw [← (i2 x a b).1]
      funext j
      exact qa_up_no _ (fun z => c z.1), fun _ => qa_up_hit _ _ _ _, i3, i4, i5⟩
  · rw [if_neg h0] at e1
    simp at hm
    obtain ⟨z1, z2⟩ := hm
    rw [z1] at e1
    rw [z2]
    exact ⟨m', kd', n', c', s', qa_fn_eq (l_passE2 x0 e1) (by simp; omega), i1, fun x a b => (i2 x a b).2, fun x a b _ => (i2 x a b).1, fun z => absurd z (by decide), i3, i4, i5⟩
theorem l_common0 {m m' : Int → Int → Int} {kd kd' : Int → Nat × Int} {w w' : Nat × Nat × Nat} {a b v : Int} (x0 : kd 0 = (14, 0)) (k91 : kd' 91 = (105, 1)) (call : f_X11_common [(1, 0), (0, a), (0, b)] (m, kd, w) = some (.inl (some (0, v)), (m', kd', w'))) : qa_ev P_L_common 0 [(1, 0), (0, a), (0, b), (1, 91), (9, 0)] [] (m, kd, w) = some (.inl (some (0, 0)), (qa_up m' 91 0 v, kd', w')) := by
  simp (disch := omega) [ev_L_common_0, ev_L_common_1, ev_L_common_2, B_L_common_0, B_L_common_1, B_L_common_2, x_const, x_iadd, x_isub, x_imul, x_idiv, x_irem, x_ineg, x_dup, x_dup_x1, x_dup2, x_pop, x_goto, x_ifeq, x_ifne, x_iflt, x_ifge, x_ifgt, x_ifle, x_cmpeq, x_cmpne, x_cmplt, x_cmpge, x_cmpgt, x_cmple, x_null, x_nonnull, x_acmpeq, x_acmpne, x_get, x_put, x_putz, x_ald, x_ast, x_bast, x_zast, x_aast, x_alen, x_obj, x_ret, x_retz, x_vret, x_max, x_min, x_copy, x_i2l, qg_none, qg_inl, qg_inr, qg_ite, xr1, xr0, xrE, xri, xl0, xl1, xl2, xl3, xl4, xl5, xl6, xl7, xl8, xl9, xl10, xs0, xs1, xs2, xs3, xs4, xs5, xs6, xs7, xs8, xs9, xs10, xi0, xi1, xi2, xi3, xi4, xi5, xi6, xi7, xi8, xi9, xi10, xc0, xc1, xc2, xc3, xc4, xc5, xc6, xc7, xv1, xv2, xv3, xv4, xv5, xv6, xv7, dT_le, dF_le, dT_lt, dF_lt, xhr1, xhrE1, qa_free, xh3, x0, k91, call]
theorem l_commonE1 {m m' : Int → Int → Int} {kd kd' : Int → Nat × Int} {w w' : Nat × Nat × Nat} {a b : Int} (x0 : kd 0 = (14, 0)) (call : f_X11_common [(1, 0), (0, a), (0, b)] (m, kd, w) = some (.inr 1, (m', kd', w'))) : qa_ev P_L_common 0 [(1, 0), (0, a), (0, b), (1, 91), (9, 0)] [] (m, kd, w) = some (.inl (some (0, 1)), (m', kd', w')) := by
  simp (disch := omega) [ev_L_common_0, ev_L_common_1, ev_L_common_2, B_L_common_0, B_L_common_1, B_L_common_2, x_const, x_iadd, x_isub, x_imul, x_idiv, x_irem, x_ineg, x_dup, x_dup_x1, x_dup2, x_pop, x_goto, x_ifeq, x_ifne, x_iflt, x_ifge, x_ifgt, x_ifle, x_cmpeq, x_cmpne, x_cmplt, x_cmpge, x_cmpgt, x_cmple, x_null, x_nonnull, x_acmpeq, x_acmpne, x_get, x_put, x_putz, x_ald, x_ast, x_bast, x_zast, x_aast, x_alen, x_obj, x_ret, x_retz, x_vret, x_max, x_min, x_copy, x_i2l, qg_none, qg_inl, qg_inr, qg_ite, xr1, xr0, xrE, xri, xl0, xl1, xl2, xl3, xl4, xl5, xl6, xl7, xl8, xl9, xl10, xs0, xs1, xs2, xs3, xs4, xs5, xs6, xs7, xs8, xs9, xs10, xi0, xi1, xi2, xi3, xi4, xi5, xi6, xi7, xi8, xi9, xi10, xc0, xc1, xc2, xc3, xc4, xc5, xc6, xc7, xv1, xv2, xv3, xv4, xv5, xv6, xv7, dT_le, dF_le, dT_lt, dF_lt, qa_free, xh3, xhrE1, x0, call]
  rfl
theorem lp_common {N : Int} {g : zG} {a b : Int} (h : PPub N g f_X11_common [(1, 0), (0, a), (0, b)] f_X12_common [(1, 77), (0, a), (0, b)] [(1, 1)]) : LPPub N g f_L_common [(1, 0), (0, a), (0, b), (1, 91)] f_X12_common [(1, 77), (0, a), (0, b)] := by
  obtain ⟨g', N', e, code, ans, h1, h2, h3, h4, C, M⟩ := h
  have hc : 0 ≤ code ∧ code ≤ 2 := by
    rcases h4 with ⟨_, z⟩ | ⟨_, hm⟩
    · omega
    · simp at hm
      omega
  refine ⟨g', N', code, ans, h1, h2, h3, hc, fun m kd n c s i k91 => ?_, M⟩
  obtain ⟨m', kd', n', c', s', e1, i1, i2, i3, i4, i5⟩ := C m kd n c s i
  have x0 := i.q.2.2.1
  have k91' : kd' 91 = (105, 1) := by rw [(i2 91 (by decide) (by decide)).2]; exact k91
  rcases h4 with ⟨z1, z2⟩ | ⟨h0, hm⟩
  · rw [if_pos z1] at e1
    rw [z2]
    exact ⟨qa_up m' 91 0 ans, kd', n', c', s', qa_fn_eq (l_common0 x0 k91' e1) (by simp; omega), CI_91 i1 0 ans, fun x a b => (i2 x a b).2, fun x a b c => by
      rw [← (i2 x a b).1]
      funext j
      exact qa_up_no _ (fun z => c z.1), fun _ => qa_up_hit _ _ _ _, i3, i4, i5⟩
  · rw [if_neg h0] at e1
    simp at hm
    obtain ⟨z1, z2⟩ := hm
    rw [z1] at e1
    rw [z2]
    exact ⟨m', kd', n', c', s', qa_fn_eq (l_commonE1 x0 e1) (by simp; omega), i1, fun x a b => (i2 x a b).2, fun x a b _ => (i2 x a b).1, fun z => absurd z (by decide), i3, i4, i5⟩
theorem l_holder0 {m m' : Int → Int → Int} {kd kd' : Int → Nat × Int} {w w' : Nat × Nat × Nat} {a v : Int} (x0 : kd 0 = (14, 0)) (k91 : kd' 91 = (105, 1)) (call : f_X11_holder [(1, 0), (0, a)] (m, kd, w) = some (.inl (some (0, v)), (m', kd', w'))) : qa_ev P_L_holder 0 [(1, 0), (0, a), (1, 91), (9, 0)] [] (m, kd, w) = some (.inl (some (0, 0)), (qa_up m' 91 0 v, kd', w')) := by
  simp (disch := omega) [ev_L_holder_0, ev_L_holder_1, ev_L_holder_2, B_L_holder_0, B_L_holder_1, B_L_holder_2, x_const, x_iadd, x_isub, x_imul, x_idiv, x_irem, x_ineg, x_dup, x_dup_x1, x_dup2, x_pop, x_goto, x_ifeq, x_ifne, x_iflt, x_ifge, x_ifgt, x_ifle, x_cmpeq, x_cmpne, x_cmplt, x_cmpge, x_cmpgt, x_cmple, x_null, x_nonnull, x_acmpeq, x_acmpne, x_get, x_put, x_putz, x_ald, x_ast, x_bast, x_zast, x_aast, x_alen, x_obj, x_ret, x_retz, x_vret, x_max, x_min, x_copy, x_i2l, qg_none, qg_inl, qg_inr, qg_ite, xr1, xr0, xrE, xri, xl0, xl1, xl2, xl3, xl4, xl5, xl6, xl7, xl8, xl9, xl10, xs0, xs1, xs2, xs3, xs4, xs5, xs6, xs7, xs8, xs9, xs10, xi0, xi1, xi2, xi3, xi4, xi5, xi6, xi7, xi8, xi9, xi10, xc0, xc1, xc2, xc3, xc4, xc5, xc6, xc7, xv1, xv2, xv3, xv4, xv5, xv6, xv7, dT_le, dF_le, dT_lt, dF_lt, xhr1, xhrE1, qa_free, xh2, x0, k91, call]
theorem l_holderE1 {m m' : Int → Int → Int} {kd kd' : Int → Nat × Int} {w w' : Nat × Nat × Nat} {a : Int} (x0 : kd 0 = (14, 0)) (call : f_X11_holder [(1, 0), (0, a)] (m, kd, w) = some (.inr 1, (m', kd', w'))) : qa_ev P_L_holder 0 [(1, 0), (0, a), (1, 91), (9, 0)] [] (m, kd, w) = some (.inl (some (0, 1)), (m', kd', w')) := by
  simp (disch := omega) [ev_L_holder_0, ev_L_holder_1, ev_L_holder_2, B_L_holder_0, B_L_holder_1, B_L_holder_2, x_const, x_iadd, x_isub, x_imul, x_idiv, x_irem, x_ineg, x_dup, x_dup_x1, x_dup2, x_pop, x_goto, x_ifeq, x_ifne, x_iflt, x_ifge, x_ifgt, x_ifle, x_cmpeq, x_cmpne, x_cmplt, x_cmpge, x_cmpgt, x_cmple, x_null, x_nonnull, x_acmpeq, x_acmpne, x_get, x_put, x_putz, x_ald, x_ast, x_bast, x_zast, x_aast, x_alen, x_obj, x_ret, x_retz, x_vret, x_max, x_min, x_copy, x_i2l, qg_none, qg_inl, qg_inr, qg_ite, xr1, xr0, xrE, xri, xl0, xl1, xl2, xl3, xl4, xl5, xl6, xl7, xl8, xl9, xl10, xs0, xs1, xs2, xs3, xs4, xs5, xs6, xs7, xs8, xs9, xs10, xi0, xi1, xi2, xi3, xi4, xi5, xi6, xi7, xi8, xi9, xi10, xc0, xc1, xc2, xc3, xc4, xc5, xc6, xc7, xv1, xv2, xv3, xv4, xv5, xv6, xv7, dT_le, dF_le, dT_lt, dF_lt, qa_free, xh2, xhrE1, x0, call]
  rfl
theorem lp_holder {N : Int} {g : zG} {a : Int} (h : PPub N g f_X11_holder [(1, 0), (0, a)] f_X12_holder [(1, 77), (0, a)] [(1, 1)]) : LPPub N g f_L_holder [(1, 0), (0, a), (1, 91)] f_X12_holder [(1, 77), (0, a)] := by
  obtain ⟨g', N', e, code, ans, h1, h2, h3, h4, C, M⟩ := h
  have hc : 0 ≤ code ∧ code ≤ 2 := by
    rcases h4 with ⟨_, z⟩ | ⟨_, hm⟩
    · omega
    · simp at hm
      omega
  refine ⟨g', N', code, ans, h1, h2, h3, hc, fun m kd n c s i k91 => ?_, M⟩
  obtain ⟨m', kd', n', c', s', e1, i1, i2, i3, i4, i5⟩ := C m kd n c s i
  have x0 := i.q.2.2.1
  have k91' : kd' 91 = (105, 1) := by rw [(i2 91 (by decide) (by decide)).2]; exact k91
  rcases h4 with ⟨z1, z2⟩ | ⟨h0, hm⟩
  · rw [if_pos z1] at e1
    rw [z2]
    exact ⟨qa_up m' 91 0 ans, kd', n', c', s', qa_fn_eq (l_holder0 x0 k91' e1) (by simp; omega), CI_91 i1 0 ans, fun x a b => (i2 x a b).2, fun x a b c => by
      rw [← (i2 x a b).1]
      funext j
      exact qa_up_no _ (fun z => c z.1), fun _ => qa_up_hit _ _ _ _, i3, i4, i5⟩
  · rw [if_neg h0] at e1
    simp at hm
    obtain ⟨z1, z2⟩ := hm
    rw [z1] at e1
    rw [z2]
    exact ⟨m', kd', n', c', s', qa_fn_eq (l_holderE1 x0 e1) (by simp; omega), i1, fun x a b => (i2 x a b).2, fun x a b _ => (i2 x a b).1, fun z => absurd z (by decide), i3, i4, i5⟩
theorem l_slowest0 {m m' : Int → Int → Int} {kd kd' : Int → Nat × Int} {w w' : Nat × Nat × Nat} {a v : Int} (x0 : kd 0 = (14, 0)) (k91 : kd' 91 = (105, 1)) (call : f_X11_slowest [(1, 0), (0, a)] (m, kd, w) = some (.inl (some (0, v)), (m', kd', w'))) : qa_ev P_L_slowest 0 [(1, 0), (0, a), (1, 91), (9, 0)] [] (m, kd, w) = some (.inl (some (0, 0)), (qa_up m' 91 0 v, kd', w')) := by
  simp (disch := omega) [ev_L_slowest_0, ev_L_slowest_1, ev_L_slowest_2, B_L_slowest_0, B_L_slowest_1, B_L_slowest_2, x_const, x_iadd, x_isub, x_imul, x_idiv, x_irem, x_ineg, x_dup, x_dup_x1, x_dup2, x_pop, x_goto, x_ifeq, x_ifne, x_iflt, x_ifge, x_ifgt, x_ifle, x_cmpeq, x_cmpne, x_cmplt, x_cmpge, x_cmpgt, x_cmple, x_null, x_nonnull, x_acmpeq, x_acmpne, x_get, x_put, x_putz, x_ald, x_ast, x_bast, x_zast, x_aast, x_alen, x_obj, x_ret, x_retz, x_vret, x_max, x_min, x_copy, x_i2l, qg_none, qg_inl, qg_inr, qg_ite, xr1, xr0, xrE, xri, xl0, xl1, xl2, xl3, xl4, xl5, xl6, xl7, xl8, xl9, xl10, xs0, xs1, xs2, xs3, xs4, xs5, xs6, xs7, xs8, xs9, xs10, xi0, xi1, xi2, xi3, xi4, xi5, xi6, xi7, xi8, xi9, xi10, xc0, xc1, xc2, xc3, xc4, xc5, xc6, xc7, xv1, xv2, xv3, xv4, xv5, xv6, xv7, dT_le, dF_le, dT_lt, dF_lt, xhr1, xhrE1, qa_free, xh2, x0, k91, call]
theorem l_slowestE1 {m m' : Int → Int → Int} {kd kd' : Int → Nat × Int} {w w' : Nat × Nat × Nat} {a : Int} (x0 : kd 0 = (14, 0)) (call : f_X11_slowest [(1, 0), (0, a)] (m, kd, w) = some (.inr 1, (m', kd', w'))) : qa_ev P_L_slowest 0 [(1, 0), (0, a), (1, 91), (9, 0)] [] (m, kd, w) = some (.inl (some (0, 1)), (m', kd', w')) := by
  simp (disch := omega) [ev_L_slowest_0, ev_L_slowest_1, ev_L_slowest_2, B_L_slowest_0, B_L_slowest_1, B_L_slowest_2, x_const, x_iadd, x_isub, x_imul, x_idiv, x_irem, x_ineg, x_dup, x_dup_x1, x_dup2, x_pop, x_goto, x_ifeq, x_ifne, x_iflt, x_ifge, x_ifgt, x_ifle, x_cmpeq, x_cmpne, x_cmplt, x_cmpge, x_cmpgt, x_cmple, x_null, x_nonnull, x_acmpeq, x_acmpne, x_get, x_put, x_putz, x_ald, x_ast, x_bast, x_zast, x_aast, x_alen, x_obj, x_ret, x_retz, x_vret, x_max, x_min, x_copy, x_i2l, qg_none, qg_inl, qg_inr, qg_ite, xr1, xr0, xrE, xri, xl0, xl1, xl2, xl3, xl4, xl5, xl6, xl7, xl8, xl9, xl10, xs0, xs1, xs2, xs3, xs4, xs5, xs6, xs7, xs8, xs9, xs10, xi0, xi1, xi2, xi3, xi4, xi5, xi6, xi7, xi8, xi9, xi10, xc0, xc1, xc2, xc3, xc4, xc5, xc6, xc7, xv1, xv2, xv3, xv4, xv5, xv6, xv7, dT_le, dF_le, dT_lt, dF_lt, qa_free, xh2, xhrE1, x0, call]
  rfl
theorem lp_slowest {N : Int} {g : zG} {a : Int} (h : PPub N g f_X11_slowest [(1, 0), (0, a)] f_X12_slowest [(1, 77), (0, a)] [(1, 1)]) : LPPub N g f_L_slowest [(1, 0), (0, a), (1, 91)] f_X12_slowest [(1, 77), (0, a)] := by
  obtain ⟨g', N', e, code, ans, h1, h2, h3, h4, C, M⟩ := h
  have hc : 0 ≤ code ∧ code ≤ 2 := by
    rcases h4 with ⟨_, z⟩ | ⟨_, hm⟩
    · omega
    · simp at hm
      omega
  refine ⟨g', N', code, ans, h1, h2, h3, hc, fun m kd n c s i k91 => ?_, M⟩
  obtain ⟨m', kd', n', c', s', e1, i1, i2, i3, i4, i5⟩ := C m kd n c s i
  have x0 := i.q.2.2.1
  have k91' : kd' 91 = (105, 1) := by rw [(i2 91 (by decide) (by decide)).2]; exact k91
  rcases h4 with ⟨z1, z2⟩ | ⟨h0, hm⟩
  · rw [if_pos z1] at e1
    rw [z2]
    exact ⟨qa_up m' 91 0 ans, kd', n', c', s', qa_fn_eq (l_slowest0 x0 k91' e1) (by simp; omega), CI_91 i1 0 ans, fun x a b => (i2 x a b).2, fun x a b c => by
      rw [← (i2 x a b).1]
      funext j
      exact qa_up_no _ (fun z => c z.1), fun _ => qa_up_hit _ _ _ _, i3, i4, i5⟩
  · rw [if_neg h0] at e1
    simp at hm
    obtain ⟨z1, z2⟩ := hm
    rw [z1] at e1
    rw [z2]
    exact ⟨m', kd', n', c', s', qa_fn_eq (l_slowestE1 x0 e1) (by simp; omega), i1, fun x a b => (i2 x a b).2, fun x a b _ => (i2 x a b).1, fun z => absurd z (by decide), i3, i4, i5⟩
theorem l_cause0 {m m' : Int → Int → Int} {kd kd' : Int → Nat × Int} {w w' : Nat × Nat × Nat} {a v : Int} (x0 : kd 0 = (14, 0)) (k91 : kd' 91 = (105, 1)) (call : f_X11_cause [(1, 0), (0, a)] (m, kd, w) = some (.inl (some (0, v)), (m', kd', w'))) : qa_ev P_L_cause 0 [(1, 0), (0, a), (1, 91), (9, 0)] [] (m, kd, w) = some (.inl (some (0, 0)), (qa_up m' 91 0 v, kd', w')) := by
  simp (disch := omega) [ev_L_cause_0, ev_L_cause_1, ev_L_cause_2, B_L_cause_0, B_L_cause_1, B_L_cause_2, x_const, x_iadd, x_isub, x_imul, x_idiv, x_irem, x_ineg, x_dup, x_dup_x1, x_dup2, x_pop, x_goto, x_ifeq, x_ifne, x_iflt, x_ifge, x_ifgt, x_ifle, x_cmpeq, x_cmpne, x_cmplt, x_cmpge, x_cmpgt, x_cmple, x_null, x_nonnull, x_acmpeq, x_acmpne, x_get, x_put, x_putz, x_ald, x_ast, x_bast, x_zast, x_aast, x_alen, x_obj, x_ret, x_retz, x_vret, x_max, x_min, x_copy, x_i2l, qg_none, qg_inl, qg_inr, qg_ite, xr1, xr0, xrE, xri, xl0, xl1, xl2, xl3, xl4, xl5, xl6, xl7, xl8, xl9, xl10, xs0, xs1, xs2, xs3, xs4, xs5, xs6, xs7, xs8, xs9, xs10, xi0, xi1, xi2, xi3, xi4, xi5, xi6, xi7, xi8, xi9, xi10, xc0, xc1, xc2, xc3, xc4, xc5, xc6, xc7, xv1, xv2, xv3, xv4, xv5, xv6, xv7, dT_le, dF_le, dT_lt, dF_lt, xhr1, xhrE1, qa_free, xh2, x0, k91, call]
theorem l_causeE1 {m m' : Int → Int → Int} {kd kd' : Int → Nat × Int} {w w' : Nat × Nat × Nat} {a : Int} (x0 : kd 0 = (14, 0)) (call : f_X11_cause [(1, 0), (0, a)] (m, kd, w) = some (.inr 1, (m', kd', w'))) : qa_ev P_L_cause 0 [(1, 0), (0, a), (1, 91), (9, 0)] [] (m, kd, w) = some (.inl (some (0, 1)), (m', kd', w')) := by
  simp (disch := omega) [ev_L_cause_0, ev_L_cause_1, ev_L_cause_2, B_L_cause_0, B_L_cause_1, B_L_cause_2, x_const, x_iadd, x_isub, x_imul, x_idiv, x_irem, x_ineg, x_dup, x_dup_x1, x_dup2, x_pop, x_goto, x_ifeq, x_ifne, x_iflt, x_ifge, x_ifgt, x_ifle, x_cmpeq, x_cmpne, x_cmplt, x_cmpge, x_cmpgt, x_cmple, x_null, x_nonnull, x_acmpeq, x_acmpne, x_get, x_put, x_putz, x_ald, x_ast, x_bast, x_zast, x_aast, x_alen, x_obj, x_ret, x_retz, x_vret, x_max, x_min, x_copy, x_i2l, qg_none, qg_inl, qg_inr, qg_ite, xr1, xr0, xrE, xri, xl0, xl1, xl2, xl3, xl4, xl5, xl6, xl7, xl8, xl9, xl10, xs0, xs1, xs2, xs3, xs4, xs5, xs6, xs7, xs8, xs9, xs10, xi0, xi1, xi2, xi3, xi4, xi5, xi6, xi7, xi8, xi9, xi10, xc0, xc1, xc2, xc3, xc4, xc5, xc6, xc7, xv1, xv2, xv3, xv4, xv5, xv6, xv7, dT_le, dF_le, dT_lt, dF_lt, qa_free, xh2, xhrE1, x0, call]
  rfl
theorem lp_cause {N : Int} {g : zG} {a : Int} (h : PPub N g f_X11_cause [(1, 0), (0, a)] f_X12_cause [(1, 77), (0, a)] [(1, 1)]) : LPPub N g f_L_cause [(1, 0), (0, a), (1, 91)] f_X12_cause [(1, 77), (0, a)] := by
  obtain ⟨g', N', e, code, ans, h1, h2, h3, h4, C, M⟩ := h
  have hc : 0 ≤ code ∧ code ≤ 2 := by
    rcases h4 with ⟨_, z⟩ | ⟨_, hm⟩
    · omega
    · simp at hm
      omega
  refine ⟨g', N', code, ans, h1, h2, h3, hc, fun m kd n c s i k91 => ?_, M⟩
  obtain ⟨m', kd', n', c', s', e1, i1, i2, i3, i4, i5⟩ := C m kd n c s i
  have x0 := i.q.2.2.1
  have k91' : kd' 91 = (105, 1) := by rw [(i2 91 (by decide) (by decide)).2]; exact k91
  rcases h4 with ⟨z1, z2⟩ | ⟨h0, hm⟩
  · rw [if_pos z1] at e1
    rw [z2]
    exact ⟨qa_up m' 91 0 ans, kd', n', c', s', qa_fn_eq (l_cause0 x0 k91' e1) (by simp; omega), CI_91 i1 0 ans, fun x a b => (i2 x a b).2, fun x a b c => by
      rw [← (i2 x a b).1]
      funext j
      exact qa_up_no _ (fun z => c z.1), fun _ => qa_up_hit _ _ _ _, i3, i4, i5⟩
  · rw [if_neg h0] at e1
    simp at hm
    obtain ⟨z1, z2⟩ := hm
    rw [z1] at e1
    rw [z2]
    exact ⟨m', kd', n', c', s', qa_fn_eq (l_causeE1 x0 e1) (by simp; omega), i1, fun x a b => (i2 x a b).2, fun x a b _ => (i2 x a b).1, fun z => absurd z (by decide), i3, i4, i5⟩
theorem l_latest0 {m m' : Int → Int → Int} {kd kd' : Int → Nat × Int} {w w' : Nat × Nat × Nat} {a b v : Int} (x0 : kd 0 = (14, 0)) (k91 : kd' 91 = (105, 1)) (call : f_X11_latest [(1, 0), (0, a), (0, b)] (m, kd, w) = some (.inl (some (0, v)), (m', kd', w'))) : qa_ev P_L_latest 0 [(1, 0), (0, a), (0, b), (1, 91), (9, 0)] [] (m, kd, w) = some (.inl (some (0, 0)), (qa_up m' 91 0 v, kd', w')) := by
  simp (disch := omega) [ev_L_latest_0, ev_L_latest_1, ev_L_latest_2, ev_L_latest_3, B_L_latest_0, B_L_latest_1, B_L_latest_2, B_L_latest_3, x_const, x_iadd, x_isub, x_imul, x_idiv, x_irem, x_ineg, x_dup, x_dup_x1, x_dup2, x_pop, x_goto, x_ifeq, x_ifne, x_iflt, x_ifge, x_ifgt, x_ifle, x_cmpeq, x_cmpne, x_cmplt, x_cmpge, x_cmpgt, x_cmple, x_null, x_nonnull, x_acmpeq, x_acmpne, x_get, x_put, x_putz, x_ald, x_ast, x_bast, x_zast, x_aast, x_alen, x_obj, x_ret, x_retz, x_vret, x_max, x_min, x_copy, x_i2l, qg_none, qg_inl, qg_inr, qg_ite, xr1, xr0, xrE, xri, xl0, xl1, xl2, xl3, xl4, xl5, xl6, xl7, xl8, xl9, xl10, xs0, xs1, xs2, xs3, xs4, xs5, xs6, xs7, xs8, xs9, xs10, xi0, xi1, xi2, xi3, xi4, xi5, xi6, xi7, xi8, xi9, xi10, xc0, xc1, xc2, xc3, xc4, xc5, xc6, xc7, xv1, xv2, xv3, xv4, xv5, xv6, xv7, dT_le, dF_le, dT_lt, dF_lt, xhr1, xhrE1, qa_free, xh3, x0, k91, call]
theorem l_latestE1 {m m' : Int → Int → Int} {kd kd' : Int → Nat × Int} {w w' : Nat × Nat × Nat} {a b : Int} (x0 : kd 0 = (14, 0)) (call : f_X11_latest [(1, 0), (0, a), (0, b)] (m, kd, w) = some (.inr 1, (m', kd', w'))) : qa_ev P_L_latest 0 [(1, 0), (0, a), (0, b), (1, 91), (9, 0)] [] (m, kd, w) = some (.inl (some (0, 1)), (m', kd', w')) := by
  simp (disch := omega) [ev_L_latest_0, ev_L_latest_1, ev_L_latest_2, ev_L_latest_3, B_L_latest_0, B_L_latest_1, B_L_latest_2, B_L_latest_3, x_const, x_iadd, x_isub, x_imul, x_idiv, x_irem, x_ineg, x_dup, x_dup_x1, x_dup2, x_pop, x_goto, x_ifeq, x_ifne, x_iflt, x_ifge, x_ifgt, x_ifle, x_cmpeq, x_cmpne, x_cmplt, x_cmpge, x_cmpgt, x_cmple, x_null, x_nonnull, x_acmpeq, x_acmpne, x_get, x_put, x_putz, x_ald, x_ast, x_bast, x_zast, x_aast, x_alen, x_obj, x_ret, x_retz, x_vret, x_max, x_min, x_copy, x_i2l, qg_none, qg_inl, qg_inr, qg_ite, xr1, xr0, xrE, xri, xl0, xl1, xl2, xl3, xl4, xl5, xl6, xl7, xl8, xl9, xl10, xs0, xs1, xs2, xs3, xs4, xs5, xs6, xs7, xs8, xs9, xs10, xi0, xi1, xi2, xi3, xi4, xi5, xi6, xi7, xi8, xi9, xi10, xc0, xc1, xc2, xc3, xc4, xc5, xc6, xc7, xv1, xv2, xv3, xv4, xv5, xv6, xv7, dT_le, dF_le, dT_lt, dF_lt, qa_free, xh3, xhrE1, x0, call]
  rfl
theorem l_latestE2 {m m' : Int → Int → Int} {kd kd' : Int → Nat × Int} {w w' : Nat × Nat × Nat} {a b : Int} (x0 : kd 0 = (14, 0)) (call : f_X11_latest [(1, 0), (0, a), (0, b)] (m, kd, w) = some (.inr 2, (m', kd', w'))) : qa_ev P_L_latest 0 [(1, 0), (0, a), (0, b), (1, 91), (9, 0)] [] (m, kd, w) = some (.inl (some (0, 2)), (m', kd', w')) := by
  simp (disch := omega) [ev_L_latest_0, ev_L_latest_1, ev_L_latest_2, ev_L_latest_3, B_L_latest_0, B_L_latest_1, B_L_latest_2, B_L_latest_3, x_const, x_iadd, x_isub, x_imul, x_idiv, x_irem, x_ineg, x_dup, x_dup_x1, x_dup2, x_pop, x_goto, x_ifeq, x_ifne, x_iflt, x_ifge, x_ifgt, x_ifle, x_cmpeq, x_cmpne, x_cmplt, x_cmpge, x_cmpgt, x_cmple, x_null, x_nonnull, x_acmpeq, x_acmpne, x_get, x_put, x_putz, x_ald, x_ast, x_bast, x_zast, x_aast, x_alen, x_obj, x_ret, x_retz, x_vret, x_max, x_min, x_copy, x_i2l, qg_none, qg_inl, qg_inr, qg_ite, xr1, xr0, xrE, xri, xl0, xl1, xl2, xl3, xl4, xl5, xl6, xl7, xl8, xl9, xl10, xs0, xs1, xs2, xs3, xs4, xs5, xs6, xs7, xs8, xs9, xs10, xi0, xi1, xi2, xi3, xi4, xi5, xi6, xi7, xi8, xi9, xi10, xc0, xc1, xc2, xc3, xc4, xc5, xc6, xc7, xv1, xv2, xv3, xv4, xv5, xv6, xv7, dT_le, dF_le, dT_lt, dF_lt, qa_free, xh3, xhrE2 2 1 1 4 2 4 (by decide), x0, call]
  rfl
theorem lp_latest {N : Int} {g : zG} {a b : Int} (h : PPub N g f_X11_latest [(1, 0), (0, a), (0, b)] f_X12_latest [(1, 77), (0, a), (0, b)] [(1, 1), (2, 2)]) : LPPub N g f_L_latest [(1, 0), (0, a), (0, b), (1, 91)] f_X12_latest [(1, 77), (0, a), (0, b)] := by
  obtain ⟨g', N', e, code, ans, h1, h2, h3, h4, C, M⟩ := h
  have hc : 0 ≤ code ∧ code ≤ 2 := by
    rcases h4 with ⟨_, z⟩ | ⟨_, hm⟩
    · omega
    · simp at hm
      omega
  refine ⟨g', N', code, ans, h1, h2, h3, hc, fun m kd n c s i k91 => ?_, M⟩
  obtain ⟨m', kd', n', c', s', e1, i1, i2, i3, i4, i5⟩ := C m kd n c s i
  have x0 := i.q.2.2.1
  have k91' : kd' 91 = (105, 1) := by rw [(i2 91 (by decide) (by decide)).2]; exact k91
  rcases h4 with ⟨z1, z2⟩ | ⟨h0, hm⟩
  · rw [if_pos z1] at e1
    rw [z2]
    exact ⟨qa_up m' 91 0 ans, kd', n', c', s', qa_fn_eq (l_latest0 x0 k91' e1) (by simp; omega), CI_91 i1 0 ans, fun x a b => (i2 x a b).2, fun x a b c => by
      rw [← (i2 x a b).1]
      funext j
      exact qa_up_no _ (fun z => c z.1), fun _ => qa_up_hit _ _ _ _, i3, i4, i5⟩
  · rw [if_neg h0] at e1
    simp at hm
    rcases hm with hm | hm
    · obtain ⟨z1, z2⟩ := hm
      rw [z1] at e1
      rw [z2]
      exact ⟨m', kd', n', c', s', qa_fn_eq (l_latestE1 x0 e1) (by simp; omega), i1, fun x a b => (i2 x a b).2, fun x a b _ => (i2 x a b).1, fun z => absurd z (by decide), i3, i4, i5⟩
    · obtain ⟨z1, z2⟩ := hm
      rw [z1] at e1
      rw [z2]
      exact ⟨m', kd', n', c', s', qa_fn_eq (l_latestE2 x0 e1) (by simp; omega), i1, fun x a b => (i2 x a b).2, fun x a b _ => (i2 x a b).1, fun z => absurd z (by decide), i3, i4, i5⟩
theorem l_ahead0 {m m' : Int → Int → Int} {kd kd' : Int → Nat × Int} {w w' : Nat × Nat × Nat} {a b v : Int} (x0 : kd 0 = (14, 0)) (k91 : kd' 91 = (105, 1)) (call : f_X11_ahead [(1, 0), (0, a), (0, b)] (m, kd, w) = some (.inl (some (0, v)), (m', kd', w'))) : qa_ev P_L_ahead 0 [(1, 0), (0, a), (0, b), (1, 91), (9, 0)] [] (m, kd, w) = some (.inl (some (0, 0)), (qa_up m' 91 0 v, kd', w')) := by
  simp (disch := omega) [ev_L_ahead_0, ev_L_ahead_1, ev_L_ahead_2, B_L_ahead_0, B_L_ahead_1, B_L_ahead_2, x_const, x_iadd, x_isub, x_imul, x_idiv, x_irem, x_ineg, x_dup, x_dup_x1, x_dup2, x_pop, x_goto, x_ifeq, x_ifne, x_iflt, x_ifge, x_ifgt, x_ifle, x_cmpeq, x_cmpne, x_cmplt, x_cmpge, x_cmpgt, x_cmple, x_null, x_nonnull, x_acmpeq, x_acmpne, x_get, x_put, x_putz, x_ald, x_ast, x_bast, x_zast, x_aast, x_alen, x_obj, x_ret, x_retz, x_vret, x_max, x_min, x_copy, x_i2l, qg_none, qg_inl, qg_inr, qg_ite, xr1, xr0, xrE, xri, xl0, xl1, xl2, xl3, xl4, xl5, xl6, xl7, xl8, xl9, xl10, xs0, xs1, xs2, xs3, xs4, xs5, xs6, xs7, xs8, xs9, xs10, xi0, xi1, xi2, xi3, xi4, xi5, xi6, xi7, xi8, xi9, xi10, xc0, xc1, xc2, xc3, xc4, xc5, xc6, xc7, xv1, xv2, xv3, xv4, xv5, xv6, xv7, dT_le, dF_le, dT_lt, dF_lt, xhr1, xhrE1, qa_free, xh3, x0, k91, call]
theorem l_aheadE2 {m m' : Int → Int → Int} {kd kd' : Int → Nat × Int} {w w' : Nat × Nat × Nat} {a b : Int} (x0 : kd 0 = (14, 0)) (call : f_X11_ahead [(1, 0), (0, a), (0, b)] (m, kd, w) = some (.inr 2, (m', kd', w'))) : qa_ev P_L_ahead 0 [(1, 0), (0, a), (0, b), (1, 91), (9, 0)] [] (m, kd, w) = some (.inl (some (0, 1)), (m', kd', w')) := by
  simp (disch := omega) [ev_L_ahead_0, ev_L_ahead_1, ev_L_ahead_2, B_L_ahead_0, B_L_ahead_1, B_L_ahead_2, x_const, x_iadd, x_isub, x_imul, x_idiv, x_irem, x_ineg, x_dup, x_dup_x1, x_dup2, x_pop, x_goto, x_ifeq, x_ifne, x_iflt, x_ifge, x_ifgt, x_ifle, x_cmpeq, x_cmpne, x_cmplt, x_cmpge, x_cmpgt, x_cmple, x_null, x_nonnull, x_acmpeq, x_acmpne, x_get, x_put, x_putz, x_ald, x_ast, x_bast, x_zast, x_aast, x_alen, x_obj, x_ret, x_retz, x_vret, x_max, x_min, x_copy, x_i2l, qg_none, qg_inl, qg_inr, qg_ite, xr1, xr0, xrE, xri, xl0, xl1, xl2, xl3, xl4, xl5, xl6, xl7, xl8, xl9, xl10, xs0, xs1, xs2, xs3, xs4, xs5, xs6, xs7, xs8, xs9, xs10, xi0, xi1, xi2, xi3, xi4, xi5, xi6, xi7, xi8, xi9, xi10, xc0, xc1, xc2, xc3, xc4, xc5, xc6, xc7, xv1, xv2, xv3, xv4, xv5, xv6, xv7, dT_le, dF_le, dT_lt, dF_lt, qa_free, xh3, xhrE1, x0, call]
  rfl
theorem lp_ahead {N : Int} {g : zG} {a b : Int} (h : PPub N g f_X11_ahead [(1, 0), (0, a), (0, b)] f_X12_ahead [(1, 77), (0, a), (0, b)] [(2, 1)]) : LPPub N g f_L_ahead [(1, 0), (0, a), (0, b), (1, 91)] f_X12_ahead [(1, 77), (0, a), (0, b)] := by
  obtain ⟨g', N', e, code, ans, h1, h2, h3, h4, C, M⟩ := h
  have hc : 0 ≤ code ∧ code ≤ 2 := by
    rcases h4 with ⟨_, z⟩ | ⟨_, hm⟩
    · omega
    · simp at hm
      omega
  refine ⟨g', N', code, ans, h1, h2, h3, hc, fun m kd n c s i k91 => ?_, M⟩
  obtain ⟨m', kd', n', c', s', e1, i1, i2, i3, i4, i5⟩ := C m kd n c s i
  have x0 := i.q.2.2.1
  have k91' : kd' 91 = (105, 1) := by rw [(i2 91 (by decide) (by decide)).2]; exact k91
  rcases h4 with ⟨z1, z2⟩ | ⟨h0, hm⟩
  · rw [if_pos z1] at e1
    rw [z2]
    exact ⟨qa_up m' 91 0 ans, kd', n', c', s', qa_fn_eq (l_ahead0 x0 k91' e1) (by simp; omega), CI_91 i1 0 ans, fun x a b => (i2 x a b).2, fun x a b c => by
      rw [← (i2 x a b).1]
      funext j
      exact qa_up_no _ (fun z => c z.1), fun _ => qa_up_hit _ _ _ _, i3, i4, i5⟩
  · rw [if_neg h0] at e1
    simp at hm
    obtain ⟨z1, z2⟩ := hm
    rw [z1] at e1
    rw [z2]
    exact ⟨m', kd', n', c', s', qa_fn_eq (l_aheadE2 x0 e1) (by simp; omega), i1, fun x a b => (i2 x a b).2, fun x a b _ => (i2 x a b).1, fun z => absurd z (by decide), i3, i4, i5⟩
theorem l_losesIn0 {m m' : Int → Int → Int} {kd kd' : Int → Nat × Int} {w w' : Nat × Nat × Nat} {a b v : Int} (x0 : kd 0 = (14, 0)) (k91 : kd' 91 = (105, 1)) (call : f_X11_losesIn [(1, 0), (0, a), (0, b)] (m, kd, w) = some (.inl (some (0, v)), (m', kd', w'))) : qa_ev P_L_losesIn 0 [(1, 0), (0, a), (0, b), (1, 91), (9, 0)] [] (m, kd, w) = some (.inl (some (0, 0)), (qa_up m' 91 0 v, kd', w')) := by
  simp (disch := omega) [ev_L_losesIn_0, ev_L_losesIn_1, ev_L_losesIn_2, ev_L_losesIn_3, B_L_losesIn_0, B_L_losesIn_1, B_L_losesIn_2, B_L_losesIn_3, x_const, x_iadd, x_isub, x_imul, x_idiv, x_irem, x_ineg, x_dup, x_dup_x1, x_dup2, x_pop, x_goto, x_ifeq, x_ifne, x_iflt, x_ifge, x_ifgt, x_ifle, x_cmpeq, x_cmpne, x_cmplt, x_cmpge, x_cmpgt, x_cmple, x_null, x_nonnull, x_acmpeq, x_acmpne, x_get, x_put, x_putz, x_ald, x_ast, x_bast, x_zast, x_aast, x_alen, x_obj, x_ret, x_retz, x_vret, x_max, x_min, x_copy, x_i2l, qg_none, qg_inl, qg_inr, qg_ite, xr1, xr0, xrE, xri, xl0, xl1, xl2, xl3, xl4, xl5, xl6, xl7, xl8, xl9, xl10, xs0, xs1, xs2, xs3, xs4, xs5, xs6, xs7, xs8, xs9, xs10, xi0, xi1, xi2, xi3, xi4, xi5, xi6, xi7, xi8, xi9, xi10, xc0, xc1, xc2, xc3, xc4, xc5, xc6, xc7, xv1, xv2, xv3, xv4, xv5, xv6, xv7, dT_le, dF_le, dT_lt, dF_lt, xhr1, xhrE1, qa_free, xh3, x0, k91, call]
theorem l_losesInE1 {m m' : Int → Int → Int} {kd kd' : Int → Nat × Int} {w w' : Nat × Nat × Nat} {a b : Int} (x0 : kd 0 = (14, 0)) (call : f_X11_losesIn [(1, 0), (0, a), (0, b)] (m, kd, w) = some (.inr 1, (m', kd', w'))) : qa_ev P_L_losesIn 0 [(1, 0), (0, a), (0, b), (1, 91), (9, 0)] [] (m, kd, w) = some (.inl (some (0, 1)), (m', kd', w')) := by
  simp (disch := omega) [ev_L_losesIn_0, ev_L_losesIn_1, ev_L_losesIn_2, ev_L_losesIn_3, B_L_losesIn_0, B_L_losesIn_1, B_L_losesIn_2, B_L_losesIn_3, x_const, x_iadd, x_isub, x_imul, x_idiv, x_irem, x_ineg, x_dup, x_dup_x1, x_dup2, x_pop, x_goto, x_ifeq, x_ifne, x_iflt, x_ifge, x_ifgt, x_ifle, x_cmpeq, x_cmpne, x_cmplt, x_cmpge, x_cmpgt, x_cmple, x_null, x_nonnull, x_acmpeq, x_acmpne, x_get, x_put, x_putz, x_ald, x_ast, x_bast, x_zast, x_aast, x_alen, x_obj, x_ret, x_retz, x_vret, x_max, x_min, x_copy, x_i2l, qg_none, qg_inl, qg_inr, qg_ite, xr1, xr0, xrE, xri, xl0, xl1, xl2, xl3, xl4, xl5, xl6, xl7, xl8, xl9, xl10, xs0, xs1, xs2, xs3, xs4, xs5, xs6, xs7, xs8, xs9, xs10, xi0, xi1, xi2, xi3, xi4, xi5, xi6, xi7, xi8, xi9, xi10, xc0, xc1, xc2, xc3, xc4, xc5, xc6, xc7, xv1, xv2, xv3, xv4, xv5, xv6, xv7, dT_le, dF_le, dT_lt, dF_lt, qa_free, xh3, xhrE1, x0, call]
  rfl
theorem l_losesInE2 {m m' : Int → Int → Int} {kd kd' : Int → Nat × Int} {w w' : Nat × Nat × Nat} {a b : Int} (x0 : kd 0 = (14, 0)) (call : f_X11_losesIn [(1, 0), (0, a), (0, b)] (m, kd, w) = some (.inr 2, (m', kd', w'))) : qa_ev P_L_losesIn 0 [(1, 0), (0, a), (0, b), (1, 91), (9, 0)] [] (m, kd, w) = some (.inl (some (0, 2)), (m', kd', w')) := by
  simp (disch := omega) [ev_L_losesIn_0, ev_L_losesIn_1, ev_L_losesIn_2, ev_L_losesIn_3, B_L_losesIn_0, B_L_losesIn_1, B_L_losesIn_2, B_L_losesIn_3, x_const, x_iadd, x_isub, x_imul, x_idiv, x_irem, x_ineg, x_dup, x_dup_x1, x_dup2, x_pop, x_goto, x_ifeq, x_ifne, x_iflt, x_ifge, x_ifgt, x_ifle, x_cmpeq, x_cmpne, x_cmplt, x_cmpge, x_cmpgt, x_cmple, x_null, x_nonnull, x_acmpeq, x_acmpne, x_get, x_put, x_putz, x_ald, x_ast, x_bast, x_zast, x_aast, x_alen, x_obj, x_ret, x_retz, x_vret, x_max, x_min, x_copy, x_i2l, qg_none, qg_inl, qg_inr, qg_ite, xr1, xr0, xrE, xri, xl0, xl1, xl2, xl3, xl4, xl5, xl6, xl7, xl8, xl9, xl10, xs0, xs1, xs2, xs3, xs4, xs5, xs6, xs7, xs8, xs9, xs10, xi0, xi1, xi2, xi3, xi4, xi5, xi6, xi7, xi8, xi9, xi10, xc0, xc1, xc2, xc3, xc4, xc5, xc6, xc7, xv1, xv2, xv3, xv4, xv5, xv6, xv7, dT_le, dF_le, dT_lt, dF_lt, qa_free, xh3, xhrE2 2 1 1 4 2 4 (by decide), x0, call]
  rfl
theorem lp_losesIn {N : Int} {g : zG} {a b : Int} (h : PPub N g f_X11_losesIn [(1, 0), (0, a), (0, b)] f_X12_losesIn [(1, 77), (0, a), (0, b)] [(1, 1), (2, 2)]) : LPPub N g f_L_losesIn [(1, 0), (0, a), (0, b), (1, 91)] f_X12_losesIn [(1, 77), (0, a), (0, b)] := by
  obtain ⟨g', N', e, code, ans, h1, h2, h3, h4, C, M⟩ := h
  have hc : 0 ≤ code ∧ code ≤ 2 := by
    rcases h4 with ⟨_, z⟩ | ⟨_, hm⟩
    · omega
    · simp at hm
      omega
  refine ⟨g', N', code, ans, h1, h2, h3, hc, fun m kd n c s i k91 => ?_, M⟩
  obtain ⟨m', kd', n', c', s', e1, i1, i2, i3, i4, i5⟩ := C m kd n c s i
  have x0 := i.q.2.2.1
  have k91' : kd' 91 = (105, 1) := by rw [(i2 91 (by decide) (by decide)).2]; exact k91
  rcases h4 with ⟨z1, z2⟩ | ⟨h0, hm⟩
  · rw [if_pos z1] at e1
    rw [z2]
    exact ⟨qa_up m' 91 0 ans, kd', n', c', s', qa_fn_eq (l_losesIn0 x0 k91' e1) (by simp; omega), CI_91 i1 0 ans, fun x a b => (i2 x a b).2, fun x a b c => by
      rw [← (i2 x a b).1]
      funext j
      exact qa_up_no _ (fun z => c z.1), fun _ => qa_up_hit _ _ _ _, i3, i4, i5⟩
  · rw [if_neg h0] at e1
    simp at hm
    rcases hm with hm | hm
    · obtain ⟨z1, z2⟩ := hm
      rw [z1] at e1
      rw [z2]
      exact ⟨m', kd', n', c', s', qa_fn_eq (l_losesInE1 x0 e1) (by simp; omega), i1, fun x a b => (i2 x a b).2, fun x a b _ => (i2 x a b).1, fun z => absurd z (by decide), i3, i4, i5⟩
    · obtain ⟨z1, z2⟩ := hm
      rw [z1] at e1
      rw [z2]
      exact ⟨m', kd', n', c', s', qa_fn_eq (l_losesInE2 x0 e1) (by simp; omega), i1, fun x a b => (i2 x a b).2, fun x a b _ => (i2 x a b).1, fun z => absurd z (by decide), i3, i4, i5⟩
theorem l_wouldCut0 {m m' : Int → Int → Int} {kd kd' : Int → Nat × Int} {w w' : Nat × Nat × Nat} {a b v : Int} (x0 : kd 0 = (14, 0)) (k91 : kd' 91 = (105, 1)) (call : f_X11_wouldCut [(1, 0), (0, a), (0, b)] (m, kd, w) = some (.inl (some (0, v)), (m', kd', w'))) : qa_ev P_L_wouldCut 0 [(1, 0), (0, a), (0, b), (1, 91), (9, 0)] [] (m, kd, w) = some (.inl (some (0, 0)), (qa_up m' 91 0 v, kd', w')) := by
  simp (disch := omega) [ev_L_wouldCut_0, ev_L_wouldCut_1, ev_L_wouldCut_2, ev_L_wouldCut_3, B_L_wouldCut_0, B_L_wouldCut_1, B_L_wouldCut_2, B_L_wouldCut_3, x_const, x_iadd, x_isub, x_imul, x_idiv, x_irem, x_ineg, x_dup, x_dup_x1, x_dup2, x_pop, x_goto, x_ifeq, x_ifne, x_iflt, x_ifge, x_ifgt, x_ifle, x_cmpeq, x_cmpne, x_cmplt, x_cmpge, x_cmpgt, x_cmple, x_null, x_nonnull, x_acmpeq, x_acmpne, x_get, x_put, x_putz, x_ald, x_ast, x_bast, x_zast, x_aast, x_alen, x_obj, x_ret, x_retz, x_vret, x_max, x_min, x_copy, x_i2l, qg_none, qg_inl, qg_inr, qg_ite, xr1, xr0, xrE, xri, xl0, xl1, xl2, xl3, xl4, xl5, xl6, xl7, xl8, xl9, xl10, xs0, xs1, xs2, xs3, xs4, xs5, xs6, xs7, xs8, xs9, xs10, xi0, xi1, xi2, xi3, xi4, xi5, xi6, xi7, xi8, xi9, xi10, xc0, xc1, xc2, xc3, xc4, xc5, xc6, xc7, xv1, xv2, xv3, xv4, xv5, xv6, xv7, dT_le, dF_le, dT_lt, dF_lt, xhr1, xhrE1, qa_free, xh3, x0, k91, call]
theorem l_wouldCutE1 {m m' : Int → Int → Int} {kd kd' : Int → Nat × Int} {w w' : Nat × Nat × Nat} {a b : Int} (x0 : kd 0 = (14, 0)) (call : f_X11_wouldCut [(1, 0), (0, a), (0, b)] (m, kd, w) = some (.inr 1, (m', kd', w'))) : qa_ev P_L_wouldCut 0 [(1, 0), (0, a), (0, b), (1, 91), (9, 0)] [] (m, kd, w) = some (.inl (some (0, 1)), (m', kd', w')) := by
  simp (disch := omega) [ev_L_wouldCut_0, ev_L_wouldCut_1, ev_L_wouldCut_2, ev_L_wouldCut_3, B_L_wouldCut_0, B_L_wouldCut_1, B_L_wouldCut_2, B_L_wouldCut_3, x_const, x_iadd, x_isub, x_imul, x_idiv, x_irem, x_ineg, x_dup, x_dup_x1, x_dup2, x_pop, x_goto, x_ifeq, x_ifne, x_iflt, x_ifge, x_ifgt, x_ifle, x_cmpeq, x_cmpne, x_cmplt, x_cmpge, x_cmpgt, x_cmple, x_null, x_nonnull, x_acmpeq, x_acmpne, x_get, x_put, x_putz, x_ald, x_ast, x_bast, x_zast, x_aast, x_alen, x_obj, x_ret, x_retz, x_vret, x_max, x_min, x_copy, x_i2l, qg_none, qg_inl, qg_inr, qg_ite, xr1, xr0, xrE, xri, xl0, xl1, xl2, xl3, xl4, xl5, xl6, xl7, xl8, xl9, xl10, xs0, xs1, xs2, xs3, xs4, xs5, xs6, xs7, xs8, xs9, xs10, xi0, xi1, xi2, xi3, xi4, xi5, xi6, xi7, xi8, xi9, xi10, xc0, xc1, xc2, xc3, xc4, xc5, xc6, xc7, xv1, xv2, xv3, xv4, xv5, xv6, xv7, dT_le, dF_le, dT_lt, dF_lt, qa_free, xh3, xhrE1, x0, call]
  rfl
theorem l_wouldCutE2 {m m' : Int → Int → Int} {kd kd' : Int → Nat × Int} {w w' : Nat × Nat × Nat} {a b : Int} (x0 : kd 0 = (14, 0)) (call : f_X11_wouldCut [(1, 0), (0, a), (0, b)] (m, kd, w) = some (.inr 2, (m', kd', w'))) : qa_ev P_L_wouldCut 0 [(1, 0), (0, a), (0, b), (1, 91), (9, 0)] [] (m, kd, w) = some (.inl (some (0, 2)), (m', kd', w')) := by
  simp (disch := omega) [ev_L_wouldCut_0, ev_L_wouldCut_1, ev_L_wouldCut_2, ev_L_wouldCut_3, B_L_wouldCut_0, B_L_wouldCut_1, B_L_wouldCut_2, B_L_wouldCut_3, x_const, x_iadd, x_isub, x_imul, x_idiv, x_irem, x_ineg, x_dup, x_dup_x1, x_dup2, x_pop, x_goto, x_ifeq, x_ifne, x_iflt, x_ifge, x_ifgt, x_ifle, x_cmpeq, x_cmpne, x_cmplt, x_cmpge, x_cmpgt, x_cmple, x_null, x_nonnull, x_acmpeq, x_acmpne, x_get, x_put, x_putz, x_ald, x_ast, x_bast, x_zast, x_aast, x_alen, x_obj, x_ret, x_retz, x_vret, x_max, x_min, x_copy, x_i2l, qg_none, qg_inl, qg_inr, qg_ite, xr1, xr0, xrE, xri, xl0, xl1, xl2, xl3, xl4, xl5, xl6, xl7, xl8, xl9, xl10, xs0, xs1, xs2, xs3, xs4, xs5, xs6, xs7, xs8, xs9, xs10, xi0, xi1, xi2, xi3, xi4, xi5, xi6, xi7, xi8, xi9, xi10, xc0, xc1, xc2, xc3, xc4, xc5, xc6, xc7, xv1, xv2, xv3, xv4, xv5, xv6, xv7, dT_le, dF_le, dT_lt, dF_lt, qa_free, xh3, xhrE2 2 1 1 4 2 4 (by decide), x0, call]
  rfl
theorem lp_wouldCut {N : Int} {g : zG} {a b : Int} (h : PPub N g f_X11_wouldCut [(1, 0), (0, a), (0, b)] f_X12_wouldCut [(1, 77), (0, a), (0, b)] [(1, 1), (2, 2)]) : LPPub N g f_L_wouldCut [(1, 0), (0, a), (0, b), (1, 91)] f_X12_wouldCut [(1, 77), (0, a), (0, b)] := by
  obtain ⟨g', N', e, code, ans, h1, h2, h3, h4, C, M⟩ := h
  have hc : 0 ≤ code ∧ code ≤ 2 := by
    rcases h4 with ⟨_, z⟩ | ⟨_, hm⟩
    · omega
    · simp at hm
      omega
  refine ⟨g', N', code, ans, h1, h2, h3, hc, fun m kd n c s i k91 => ?_, M⟩
  obtain ⟨m', kd', n', c', s', e1, i1, i2, i3, i4, i5⟩ := C m kd n c s i
  have x0 := i.q.2.2.1
  have k91' : kd' 91 = (105, 1) := by rw [(i2 91 (by decide) (by decide)).2]; exact k91
  rcases h4 with ⟨z1, z2⟩ | ⟨h0, hm⟩
  · rw [if_pos z1] at e1
    rw [z2]
    exact ⟨qa_up m' 91 0 ans, kd', n', c', s', qa_fn_eq (l_wouldCut0 x0 k91' e1) (by simp; omega), CI_91 i1 0 ans, fun x a b => (i2 x a b).2, fun x a b c => by
      rw [← (i2 x a b).1]
      funext j
      exact qa_up_no _ (fun z => c z.1), fun _ => qa_up_hit _ _ _ _, i3, i4, i5⟩
  · rw [if_neg h0] at e1
    simp at hm
    rcases hm with hm | hm
    · obtain ⟨z1, z2⟩ := hm
      rw [z1] at e1
      rw [z2]
      exact ⟨m', kd', n', c', s', qa_fn_eq (l_wouldCutE1 x0 e1) (by simp; omega), i1, fun x a b => (i2 x a b).2, fun x a b _ => (i2 x a b).1, fun z => absurd z (by decide), i3, i4, i5⟩
    · obtain ⟨z1, z2⟩ := hm
      rw [z1] at e1
      rw [z2]
      exact ⟨m', kd', n', c', s', qa_fn_eq (l_wouldCutE2 x0 e1) (by simp; omega), i1, fun x a b => (i2 x a b).2, fun x a b _ => (i2 x a b).1, fun z => absurd z (by decide), i3, i4, i5⟩
theorem l_unread0 {m m' : Int → Int → Int} {kd kd' : Int → Nat × Int} {w w' : Nat × Nat × Nat} {a b v : Int} (x0 : kd 0 = (14, 0)) (k91 : kd' 91 = (105, 1)) (call : f_X11_unread [(1, 0), (0, a), (0, b)] (m, kd, w) = some (.inl (some (0, v)), (m', kd', w'))) : qa_ev P_L_unread 0 [(1, 0), (0, a), (0, b), (1, 91), (9, 0)] [] (m, kd, w) = some (.inl (some (0, 0)), (qa_up m' 91 0 v, kd', w')) := by
  simp (disch := omega) [ev_L_unread_0, ev_L_unread_1, ev_L_unread_2, ev_L_unread_3, B_L_unread_0, B_L_unread_1, B_L_unread_2, B_L_unread_3, x_const, x_iadd, x_isub, x_imul, x_idiv, x_irem, x_ineg, x_dup, x_dup_x1, x_dup2, x_pop, x_goto, x_ifeq, x_ifne, x_iflt, x_ifge, x_ifgt, x_ifle, x_cmpeq, x_cmpne, x_cmplt, x_cmpge, x_cmpgt, x_cmple, x_null, x_nonnull, x_acmpeq, x_acmpne, x_get, x_put, x_putz, x_ald, x_ast, x_bast, x_zast, x_aast, x_alen, x_obj, x_ret, x_retz, x_vret, x_max, x_min, x_copy, x_i2l, qg_none, qg_inl, qg_inr, qg_ite, xr1, xr0, xrE, xri, xl0, xl1, xl2, xl3, xl4, xl5, xl6, xl7, xl8, xl9, xl10, xs0, xs1, xs2, xs3, xs4, xs5, xs6, xs7, xs8, xs9, xs10, xi0, xi1, xi2, xi3, xi4, xi5, xi6, xi7, xi8, xi9, xi10, xc0, xc1, xc2, xc3, xc4, xc5, xc6, xc7, xv1, xv2, xv3, xv4, xv5, xv6, xv7, dT_le, dF_le, dT_lt, dF_lt, xhr1, xhrE1, qa_free, xh3, x0, k91, call]
theorem l_unreadE1 {m m' : Int → Int → Int} {kd kd' : Int → Nat × Int} {w w' : Nat × Nat × Nat} {a b : Int} (x0 : kd 0 = (14, 0)) (call : f_X11_unread [(1, 0), (0, a), (0, b)] (m, kd, w) = some (.inr 1, (m', kd', w'))) : qa_ev P_L_unread 0 [(1, 0), (0, a), (0, b), (1, 91), (9, 0)] [] (m, kd, w) = some (.inl (some (0, 1)), (m', kd', w')) := by
  simp (disch := omega) [ev_L_unread_0, ev_L_unread_1, ev_L_unread_2, ev_L_unread_3, B_L_unread_0, B_L_unread_1, B_L_unread_2, B_L_unread_3, x_const, x_iadd, x_isub, x_imul, x_idiv, x_irem, x_ineg, x_dup, x_dup_x1, x_dup2, x_pop, x_goto, x_ifeq, x_ifne, x_iflt, x_ifge, x_ifgt, x_ifle, x_cmpeq, x_cmpne, x_cmplt, x_cmpge, x_cmpgt, x_cmple, x_null, x_nonnull, x_acmpeq, x_acmpne, x_get, x_put, x_putz, x_ald, x_ast, x_bast, x_zast, x_aast, x_alen, x_obj, x_ret, x_retz, x_vret, x_max, x_min, x_copy, x_i2l, qg_none, qg_inl, qg_inr, qg_ite, xr1, xr0, xrE, xri, xl0, xl1, xl2, xl3, xl4, xl5, xl6, xl7, xl8, xl9, xl10, xs0, xs1, xs2, xs3, xs4, xs5, xs6, xs7, xs8, xs9, xs10, xi0, xi1, xi2, xi3, xi4, xi5, xi6, xi7, xi8, xi9, xi10, xc0, xc1, xc2, xc3, xc4, xc5, xc6, xc7, xv1, xv2, xv3, xv4, xv5, xv6, xv7, dT_le, dF_le, dT_lt, dF_lt, qa_free, xh3, xhrE1, x0, call]
  rfl
theorem l_unreadE2 {m m' : Int → Int → Int} {kd kd' : Int → Nat × Int} {w w' : Nat × Nat × Nat} {a b : Int} (x0 : kd 0 = (14, 0)) (call : f_X11_unread [(1, 0), (0, a), (0, b)] (m, kd, w) = some (.inr 2, (m', kd', w'))) : qa_ev P_L_unread 0 [(1, 0), (0, a), (0, b), (1, 91), (9, 0)] [] (m, kd, w) = some (.inl (some (0, 2)), (m', kd', w')) := by
  simp (disch := omega) [ev_L_unread_0, ev_L_unread_1, ev_L_unread_2, ev_L_unread_3, B_L_unread_0, B_L_unread_1, B_L_unread_2, B_L_unread_3, x_const, x_iadd, x_isub, x_imul, x_idiv, x_irem, x_ineg, x_dup, x_dup_x1, x_dup2, x_pop, x_goto, x_ifeq, x_ifne, x_iflt, x_ifge, x_ifgt, x_ifle, x_cmpeq, x_cmpne, x_cmplt, x_cmpge, x_cmpgt, x_cmple, x_null, x_nonnull, x_acmpeq, x_acmpne, x_get, x_put, x_putz, x_ald, x_ast, x_bast, x_zast, x_aast, x_alen, x_obj, x_ret, x_retz, x_vret, x_max, x_min, x_copy, x_i2l, qg_none, qg_inl, qg_inr, qg_ite, xr1, xr0, xrE, xri, xl0, xl1, xl2, xl3, xl4, xl5, xl6, xl7, xl8, xl9, xl10, xs0, xs1, xs2, xs3, xs4, xs5, xs6, xs7, xs8, xs9, xs10, xi0, xi1, xi2, xi3, xi4, xi5, xi6, xi7, xi8, xi9, xi10, xc0, xc1, xc2, xc3, xc4, xc5, xc6, xc7, xv1, xv2, xv3, xv4, xv5, xv6, xv7, dT_le, dF_le, dT_lt, dF_lt, qa_free, xh3, xhrE2 2 1 1 4 2 4 (by decide), x0, call]
  rfl
theorem lp_unread {N : Int} {g : zG} {a b : Int} (h : PPub N g f_X11_unread [(1, 0), (0, a), (0, b)] f_X12_unread [(1, 77), (0, a), (0, b)] [(1, 1), (2, 2)]) : LPPub N g f_L_unread [(1, 0), (0, a), (0, b), (1, 91)] f_X12_unread [(1, 77), (0, a), (0, b)] := by
  obtain ⟨g', N', e, code, ans, h1, h2, h3, h4, C, M⟩ := h
  have hc : 0 ≤ code ∧ code ≤ 2 := by
    rcases h4 with ⟨_, z⟩ | ⟨_, hm⟩
    · omega
    · simp at hm
      omega
  refine ⟨g', N', code, ans, h1, h2, h3, hc, fun m kd n c s i k91 => ?_, M⟩
  obtain ⟨m', kd', n', c', s', e1, i1, i2, i3, i4, i5⟩ := C m kd n c s i
  have x0 := i.q.2.2.1
  have k91' : kd' 91 = (105, 1) := by rw [(i2 91 (by decide) (by decide)).2]; exact k91
  rcases h4 with ⟨z1, z2⟩ | ⟨h0, hm⟩
  · rw [if_pos z1] at e1
    rw [z2]
    exact ⟨qa_up m' 91 0 ans, kd', n', c', s', qa_fn_eq (l_unread0 x0 k91' e1) (by simp; omega), CI_91 i1 0 ans, fun x a b => (i2 x a b).2, fun x a b c => by
      rw [← (i2 x a b).1]
      funext j
      exact qa_up_no _ (fun z => c z.1), fun _ => qa_up_hit _ _ _ _, i3, i4, i5⟩
  · rw [if_neg h0] at e1
    simp at hm
    rcases hm with hm | hm
    · obtain ⟨z1, z2⟩ := hm
      rw [z1] at e1
      rw [z2]
      exact ⟨m', kd', n', c', s', qa_fn_eq (l_unreadE1 x0 e1) (by simp; omega), i1, fun x a b => (i2 x a b).2, fun x a b _ => (i2 x a b).1, fun z => absurd z (by decide), i3, i4, i5⟩
    · obtain ⟨z1, z2⟩ := hm
      rw [z1] at e1
      rw [z2]
      exact ⟨m', kd', n', c', s', qa_fn_eq (l_unreadE2 x0 e1) (by simp; omega), i1, fun x a b => (i2 x a b).2, fun x a b _ => (i2 x a b).1, fun z => absurd z (by decide), i3, i4, i5⟩
theorem l_promised0 {m m' : Int → Int → Int} {kd kd' : Int → Nat × Int} {w w' : Nat × Nat × Nat} {a v : Int} (x0 : kd 0 = (14, 0)) (k91 : kd' 91 = (105, 1)) (call : f_X11_promised [(1, 0), (0, a)] (m, kd, w) = some (.inl (some (0, v)), (m', kd', w'))) : qa_ev P_L_promised 0 [(1, 0), (0, a), (1, 91), (9, 0)] [] (m, kd, w) = some (.inl (some (0, 0)), (qa_up m' 91 0 v, kd', w')) := by
  simp (disch := omega) [ev_L_promised_0, ev_L_promised_1, ev_L_promised_2, B_L_promised_0, B_L_promised_1, B_L_promised_2, x_const, x_iadd, x_isub, x_imul, x_idiv, x_irem, x_ineg, x_dup, x_dup_x1, x_dup2, x_pop, x_goto, x_ifeq, x_ifne, x_iflt, x_ifge, x_ifgt, x_ifle, x_cmpeq, x_cmpne, x_cmplt, x_cmpge, x_cmpgt, x_cmple, x_null, x_nonnull, x_acmpeq, x_acmpne, x_get, x_put, x_putz, x_ald, x_ast, x_bast, x_zast, x_aast, x_alen, x_obj, x_ret, x_retz, x_vret, x_max, x_min, x_copy, x_i2l, qg_none, qg_inl, qg_inr, qg_ite, xr1, xr0, xrE, xri, xl0, xl1, xl2, xl3, xl4, xl5, xl6, xl7, xl8, xl9, xl10, xs0, xs1, xs2, xs3, xs4, xs5, xs6, xs7, xs8, xs9, xs10, xi0, xi1, xi2, xi3, xi4, xi5, xi6, xi7, xi8, xi9, xi10, xc0, xc1, xc2, xc3, xc4, xc5, xc6, xc7, xv1, xv2, xv3, xv4, xv5, xv6, xv7, dT_le, dF_le, dT_lt, dF_lt, xhr1, xhrE1, qa_free, xh2, x0, k91, call]
theorem l_promisedE1 {m m' : Int → Int → Int} {kd kd' : Int → Nat × Int} {w w' : Nat × Nat × Nat} {a : Int} (x0 : kd 0 = (14, 0)) (call : f_X11_promised [(1, 0), (0, a)] (m, kd, w) = some (.inr 1, (m', kd', w'))) : qa_ev P_L_promised 0 [(1, 0), (0, a), (1, 91), (9, 0)] [] (m, kd, w) = some (.inl (some (0, 1)), (m', kd', w')) := by
  simp (disch := omega) [ev_L_promised_0, ev_L_promised_1, ev_L_promised_2, B_L_promised_0, B_L_promised_1, B_L_promised_2, x_const, x_iadd, x_isub, x_imul, x_idiv, x_irem, x_ineg, x_dup, x_dup_x1, x_dup2, x_pop, x_goto, x_ifeq, x_ifne, x_iflt, x_ifge, x_ifgt, x_ifle, x_cmpeq, x_cmpne, x_cmplt, x_cmpge, x_cmpgt, x_cmple, x_null, x_nonnull, x_acmpeq, x_acmpne, x_get, x_put, x_putz, x_ald, x_ast, x_bast, x_zast, x_aast, x_alen, x_obj, x_ret, x_retz, x_vret, x_max, x_min, x_copy, x_i2l, qg_none, qg_inl, qg_inr, qg_ite, xr1, xr0, xrE, xri, xl0, xl1, xl2, xl3, xl4, xl5, xl6, xl7, xl8, xl9, xl10, xs0, xs1, xs2, xs3, xs4, xs5, xs6, xs7, xs8, xs9, xs10, xi0, xi1, xi2, xi3, xi4, xi5, xi6, xi7, xi8, xi9, xi10, xc0, xc1, xc2, xc3, xc4, xc5, xc6, xc7, xv1, xv2, xv3, xv4, xv5, xv6, xv7, dT_le, dF_le, dT_lt, dF_lt, qa_free, xh2, xhrE1, x0, call]
  rfl
theorem lp_promised {N : Int} {g : zG} {a : Int} (h : PPub N g f_X11_promised [(1, 0), (0, a)] f_X12_promised [(1, 77), (0, a)] [(1, 1)]) : LPPub N g f_L_promised [(1, 0), (0, a), (1, 91)] f_X12_promised [(1, 77), (0, a)] := by
  obtain ⟨g', N', e, code, ans, h1, h2, h3, h4, C, M⟩ := h
  have hc : 0 ≤ code ∧ code ≤ 2 := by
    rcases h4 with ⟨_, z⟩ | ⟨_, hm⟩
    · omega
    · simp at hm
      omega
  refine ⟨g', N', code, ans, h1, h2, h3, hc, fun m kd n c s i k91 => ?_, M⟩
  obtain ⟨m', kd', n', c', s', e1, i1, i2, i3, i4, i5⟩ := C m kd n c s i
  have x0 := i.q.2.2.1
  have k91' : kd' 91 = (105, 1) := by rw [(i2 91 (by decide) (by decide)).2]; exact k91
  rcases h4 with ⟨z1, z2⟩ | ⟨h0, hm⟩
  · rw [if_pos z1] at e1
    rw [z2]
    exact ⟨qa_up m' 91 0 ans, kd', n', c', s', qa_fn_eq (l_promised0 x0 k91' e1) (by simp; omega), CI_91 i1 0 ans, fun x a b => (i2 x a b).2, fun x a b c => by
      rw [← (i2 x a b).1]
      funext j
      exact qa_up_no _ (fun z => c z.1), fun _ => qa_up_hit _ _ _ _, i3, i4, i5⟩
  · rw [if_neg h0] at e1
    simp at hm
    obtain ⟨z1, z2⟩ := hm
    rw [z1] at e1
    rw [z2]
    exact ⟨m', kd', n', c', s', qa_fn_eq (l_promisedE1 x0 e1) (by simp; omega), i1, fun x a b => (i2 x a b).2, fun x a b _ => (i2 x a b).1, fun z => absurd z (by decide), i3, i4, i5⟩
theorem l_age0 {m m' : Int → Int → Int} {kd kd' : Int → Nat × Int} {w w' : Nat × Nat × Nat} {a v : Int} (x0 : kd 0 = (14, 0)) (k91 : kd' 91 = (105, 1)) (call : f_X11_age [(1, 0), (0, a)] (m, kd, w) = some (.inl (some (0, v)), (m', kd', w'))) : qa_ev P_L_age 0 [(1, 0), (0, a), (1, 91), (9, 0)] [] (m, kd, w) = some (.inl (some (0, 0)), (qa_up m' 91 0 v, kd', w')) := by
  simp (disch := omega) [ev_L_age_0, ev_L_age_1, ev_L_age_2, B_L_age_0, B_L_age_1, B_L_age_2, x_const, x_iadd, x_isub, x_imul, x_idiv, x_irem, x_ineg, x_dup, x_dup_x1, x_dup2, x_pop, x_goto, x_ifeq, x_ifne, x_iflt, x_ifge, x_ifgt, x_ifle, x_cmpeq, x_cmpne, x_cmplt, x_cmpge, x_cmpgt, x_cmple, x_null, x_nonnull, x_acmpeq, x_acmpne, x_get, x_put, x_putz, x_ald, x_ast, x_bast, x_zast, x_aast, x_alen, x_obj, x_ret, x_retz, x_vret, x_max, x_min, x_copy, x_i2l, qg_none, qg_inl, qg_inr, qg_ite, xr1, xr0, xrE, xri, xl0, xl1, xl2, xl3, xl4, xl5, xl6, xl7, xl8, xl9, xl10, xs0, xs1, xs2, xs3, xs4, xs5, xs6, xs7, xs8, xs9, xs10, xi0, xi1, xi2, xi3, xi4, xi5, xi6, xi7, xi8, xi9, xi10, xc0, xc1, xc2, xc3, xc4, xc5, xc6, xc7, xv1, xv2, xv3, xv4, xv5, xv6, xv7, dT_le, dF_le, dT_lt, dF_lt, xhr1, xhrE1, qa_free, xh2, x0, k91, call]
theorem l_ageE1 {m m' : Int → Int → Int} {kd kd' : Int → Nat × Int} {w w' : Nat × Nat × Nat} {a : Int} (x0 : kd 0 = (14, 0)) (call : f_X11_age [(1, 0), (0, a)] (m, kd, w) = some (.inr 1, (m', kd', w'))) : qa_ev P_L_age 0 [(1, 0), (0, a), (1, 91), (9, 0)] [] (m, kd, w) = some (.inl (some (0, 1)), (m', kd', w')) := by
  simp (disch := omega) [ev_L_age_0, ev_L_age_1, ev_L_age_2, B_L_age_0, B_L_age_1, B_L_age_2, x_const, x_iadd, x_isub, x_imul, x_idiv, x_irem, x_ineg, x_dup, x_dup_x1, x_dup2, x_pop, x_goto, x_ifeq, x_ifne, x_iflt, x_ifge, x_ifgt, x_ifle, x_cmpeq, x_cmpne, x_cmplt, x_cmpge, x_cmpgt, x_cmple, x_null, x_nonnull, x_acmpeq, x_acmpne, x_get, x_put, x_putz, x_ald, x_ast, x_bast, x_zast, x_aast, x_alen, x_obj, x_ret, x_retz, x_vret, x_max, x_min, x_copy, x_i2l, qg_none, qg_inl, qg_inr, qg_ite, xr1, xr0, xrE, xri, xl0, xl1, xl2, xl3, xl4, xl5, xl6, xl7, xl8, xl9, xl10, xs0, xs1, xs2, xs3, xs4, xs5, xs6, xs7, xs8, xs9, xs10, xi0, xi1, xi2, xi3, xi4, xi5, xi6, xi7, xi8, xi9, xi10, xc0, xc1, xc2, xc3, xc4, xc5, xc6, xc7, xv1, xv2, xv3, xv4, xv5, xv6, xv7, dT_le, dF_le, dT_lt, dF_lt, qa_free, xh2, xhrE1, x0, call]
  rfl
theorem lp_age {N : Int} {g : zG} {a : Int} (h : PPub N g f_X11_age [(1, 0), (0, a)] f_X12_age [(1, 77), (0, a)] [(1, 1)]) : LPPub N g f_L_age [(1, 0), (0, a), (1, 91)] f_X12_age [(1, 77), (0, a)] := by
  obtain ⟨g', N', e, code, ans, h1, h2, h3, h4, C, M⟩ := h
  have hc : 0 ≤ code ∧ code ≤ 2 := by
    rcases h4 with ⟨_, z⟩ | ⟨_, hm⟩
    · omega
    · simp at hm
      omega
  refine ⟨g', N', code, ans, h1, h2, h3, hc, fun m kd n c s i k91 => ?_, M⟩
  obtain ⟨m', kd', n', c', s', e1, i1, i2, i3, i4, i5⟩ := C m kd n c s i
  have x0 := i.q.2.2.1
  have k91' : kd' 91 = (105, 1) := by rw [(i2 91 (by decide) (by decide)).2]; exact k91
  rcases h4 with ⟨z1, z2⟩ | ⟨h0, hm⟩
  · rw [if_pos z1] at e1
    rw [z2]
    exact ⟨qa_up m' 91 0 ans, kd', n', c', s', qa_fn_eq (l_age0 x0 k91' e1) (by simp; omega), CI_91 i1 0 ans, fun x a b => (i2 x a b).2, fun x a b c => by
      rw [← (i2 x a b).1]
      funext j
      exact qa_up_no _ (fun z => c z.1), fun _ => qa_up_hit _ _ _ _, i3, i4, i5⟩
  · rw [if_neg h0] at e1
    simp at hm
    obtain ⟨z1, z2⟩ := hm
    rw [z1] at e1
    rw [z2]
    exact ⟨m', kd', n', c', s', qa_fn_eq (l_ageE1 x0 e1) (by simp; omega), i1, fun x a b => (i2 x a b).2, fun x a b _ => (i2 x a b).1, fun z => absurd z (by decide), i3, i4, i5⟩
theorem l_write0 {m m' : Int → Int → Int} {kd kd' : Int → Nat × Int} {w w' : Nat × Nat × Nat} {a v : Int} (x0 : kd 0 = (14, 0)) (k91 : kd' 91 = (105, 1)) (call : f_X11_write [(1, 0), (0, a)] (m, kd, w) = some (.inl (some (0, v)), (m', kd', w'))) : qa_ev P_L_write 0 [(1, 0), (0, a), (1, 91), (9, 0)] [] (m, kd, w) = some (.inl (some (0, 0)), (qa_up m' 91 0 v, kd', w')) := by
  simp (disch := omega) [ev_L_write_0, ev_L_write_1, ev_L_write_2, B_L_write_0, B_L_write_1, B_L_write_2, x_const, x_iadd, x_isub, x_imul, x_idiv, x_irem, x_ineg, x_dup, x_dup_x1, x_dup2, x_pop, x_goto, x_ifeq, x_ifne, x_iflt, x_ifge, x_ifgt, x_ifle, x_cmpeq, x_cmpne, x_cmplt, x_cmpge, x_cmpgt, x_cmple, x_null, x_nonnull, x_acmpeq, x_acmpne, x_get, x_put, x_putz, x_ald, x_ast, x_bast, x_zast, x_aast, x_alen, x_obj, x_ret, x_retz, x_vret, x_max, x_min, x_copy, x_i2l, qg_none, qg_inl, qg_inr, qg_ite, xr1, xr0, xrE, xri, xl0, xl1, xl2, xl3, xl4, xl5, xl6, xl7, xl8, xl9, xl10, xs0, xs1, xs2, xs3, xs4, xs5, xs6, xs7, xs8, xs9, xs10, xi0, xi1, xi2, xi3, xi4, xi5, xi6, xi7, xi8, xi9, xi10, xc0, xc1, xc2, xc3, xc4, xc5, xc6, xc7, xv1, xv2, xv3, xv4, xv5, xv6, xv7, dT_le, dF_le, dT_lt, dF_lt, xhr1, xhrE1, qa_free, xh2, x0, k91, call]
theorem l_writeE1 {m m' : Int → Int → Int} {kd kd' : Int → Nat × Int} {w w' : Nat × Nat × Nat} {a : Int} (x0 : kd 0 = (14, 0)) (call : f_X11_write [(1, 0), (0, a)] (m, kd, w) = some (.inr 1, (m', kd', w'))) : qa_ev P_L_write 0 [(1, 0), (0, a), (1, 91), (9, 0)] [] (m, kd, w) = some (.inl (some (0, 1)), (m', kd', w')) := by
  simp (disch := omega) [ev_L_write_0, ev_L_write_1, ev_L_write_2, B_L_write_0, B_L_write_1, B_L_write_2, x_const, x_iadd, x_isub, x_imul, x_idiv, x_irem, x_ineg, x_dup, x_dup_x1, x_dup2, x_pop, x_goto, x_ifeq, x_ifne, x_iflt, x_ifge, x_ifgt, x_ifle, x_cmpeq, x_cmpne, x_cmplt, x_cmpge, x_cmpgt, x_cmple, x_null, x_nonnull, x_acmpeq, x_acmpne, x_get, x_put, x_putz, x_ald, x_ast, x_bast, x_zast, x_aast, x_alen, x_obj, x_ret, x_retz, x_vret, x_max, x_min, x_copy, x_i2l, qg_none, qg_inl, qg_inr, qg_ite, xr1, xr0, xrE, xri, xl0, xl1, xl2, xl3, xl4, xl5, xl6, xl7, xl8, xl9, xl10, xs0, xs1, xs2, xs3, xs4, xs5, xs6, xs7, xs8, xs9, xs10, xi0, xi1, xi2, xi3, xi4, xi5, xi6, xi7, xi8, xi9, xi10, xc0, xc1, xc2, xc3, xc4, xc5, xc6, xc7, xv1, xv2, xv3, xv4, xv5, xv6, xv7, dT_le, dF_le, dT_lt, dF_lt, qa_free, xh2, xhrE1, x0, call]
  rfl
theorem lp_write {N : Int} {g : zG} {a : Int} (h : PPub N g f_X11_write [(1, 0), (0, a)] f_X12_write [(1, 77), (0, a)] [(1, 1)]) : LPPub N g f_L_write [(1, 0), (0, a), (1, 91)] f_X12_write [(1, 77), (0, a)] := by
  obtain ⟨g', N', e, code, ans, h1, h2, h3, h4, C, M⟩ := h
  have hc : 0 ≤ code ∧ code ≤ 2 := by
    rcases h4 with ⟨_, z⟩ | ⟨_, hm⟩
    · omega
    · simp at hm
      omega
  refine ⟨g', N', code, ans, h1, h2, h3, hc, fun m kd n c s i k91 => ?_, M⟩
  obtain ⟨m', kd', n', c', s', e1, i1, i2, i3, i4, i5⟩ := C m kd n c s i
  have x0 := i.q.2.2.1
  have k91' : kd' 91 = (105, 1) := by rw [(i2 91 (by decide) (by decide)).2]; exact k91
  rcases h4 with ⟨z1, z2⟩ | ⟨h0, hm⟩
  · rw [if_pos z1] at e1
    rw [z2]
    exact ⟨qa_up m' 91 0 ans, kd', n', c', s', qa_fn_eq (l_write0 x0 k91' e1) (by simp; omega), CI_91 i1 0 ans, fun x a b => (i2 x a b).2, fun x a b c => by
      rw [← (i2 x a b).1]
      funext j
      exact qa_up_no _ (fun z => c z.1), fun _ => qa_up_hit _ _ _ _, i3, i4, i5⟩
  · rw [if_neg h0] at e1
    simp at hm
    obtain ⟨z1, z2⟩ := hm
    rw [z1] at e1
    rw [z2]
    exact ⟨m', kd', n', c', s', qa_fn_eq (l_writeE1 x0 e1) (by simp; omega), i1, fun x a b => (i2 x a b).2, fun x a b _ => (i2 x a b).1, fun z => absurd z (by decide), i3, i4, i5⟩
