def tdg (v : Int) : List Int := if v < 10 then [48 + v] else if v < 100 then [48 + v / 10, 48 + v % 10] else if v < 1000 then [48 + v / 100, 48 + v / 10 % 10, 48 + v % 10] else if v < 10000 then [48 + v / 1000, 48 + v / 100 % 10, 48 + v / 10 % 10, 48 + v % 10] else [48 + v / 10000, 48 + v / 1000 % 10, 48 + v / 100 % 10, 48 + v / 10 % 10, 48 + v % 10]
theorem tdg_r {v : Int} (h : 0 ≤ v ∧ v < 100000) : (1 ≤ (tdg v).length ∧ (tdg v).length ≤ 5) ∧ ∀ x ∈ tdg v, 0 ≤ x ∧ x ≤ 127 := by
  unfold tdg
  split
  · exact ⟨by simp, fun x hx => by simp at hx; omega⟩
  · split
    · exact ⟨by simp, fun x hx => by simp at hx; omega⟩
    · split
      · exact ⟨by simp, fun x hx => by simp at hx; omega⟩
      · split
        · exact ⟨by simp, fun x hx => by simp at hx; omega⟩
        · exact ⟨by simp, fun x hx => by simp at hx; omega⟩
theorem qa_upV (m : Int → Int → Int) (V p x i : Int) : qa_up m V p x V i = if i = p then x else m V i := by
  unfold qa_up
  by_cases h : i = p
  · rw [if_pos ⟨rfl, h⟩, if_pos h]
  · rw [if_neg (fun z => h z.2), if_neg h]
theorem c_ss {m : Int → Int → Int} {kd : Int → Nat × Int} {w : Nat × Nat × Nat} {v : Int} (h : 0 ≤ v ∧ v < 100000) : f_J6_stringSize_0f7a4 [(0, v)] (m, kd, w) = some (.inl (some (0, ((tdg v).length : Int))), (m, kd, w)) := by
  unfold tdg
  by_cases h1 : v < 10
  · rw [if_pos h1]
    unfold f_J6_stringSize_0f7a4
    refine qa_fn_eq ?_ (by simp)
    simp (disch := omega) [ev_J6_stringSize_0f7a4_0, ev_J6_stringSize_0f7a4_1, ev_J6_stringSize_0f7a4_2, ev_J6_stringSize_0f7a4_3, ev_J6_stringSize_0f7a4_4, B_J6_stringSize_0f7a4_0, B_J6_stringSize_0f7a4_1, B_J6_stringSize_0f7a4_2, B_J6_stringSize_0f7a4_3, B_J6_stringSize_0f7a4_4, x_const, x_iadd, x_isub, x_imul, x_idiv, x_irem, x_ineg, x_dup, x_dup_x1, x_dup2, x_pop, x_goto, x_ifeq, x_ifne, x_iflt, x_ifge, x_ifgt, x_ifle, x_cmpeq, x_cmpne, x_cmplt, x_cmpge, x_cmpgt, x_cmple, x_null, x_nonnull, x_acmpeq, x_acmpne, x_get, x_put, x_putz, x_ald, x_ast, x_bast, x_zast, x_aast, x_alen, x_obj, x_ret, x_retz, x_vret, x_max, x_min, x_copy, x_i2l, qg_none, qg_inl, qg_inr, qg_ite, xr1, xr0, xrE, xri, xl0, xl1, xl2, xl3, xl4, xl5, xl6, xl7, xl8, xl9, xl10, xs0, xs1, xs2, xs3, xs4, xs5, xs6, xs7, xs8, xs9, xs10, xi0, xi1, xi2, xi3, xi4, xi5, xi6, xi7, xi8, xi9, xi10, xc0, xc1, xc2, xc3, xc4, xc5, xc6, xc7, xv1, xv2, xv3, xv4, xv5, xv6, xv7, dT_le, dF_le, dT_lt, dF_lt]
  · rw [if_neg h1]
    by_cases h2 : v < 100
    · rw [if_pos h2]
      unfold f_J6_stringSize_0f7a4
      refine qa_fn_eq ?_ (by simp)
      simp (disch := omega) [ev_J6_stringSize_0f7a4_0, ev_J6_stringSize_0f7a4_1, ev_J6_stringSize_0f7a4_2, ev_J6_stringSize_0f7a4_3, ev_J6_stringSize_0f7a4_4, B_J6_stringSize_0f7a4_0, B_J6_stringSize_0f7a4_1, B_J6_stringSize_0f7a4_2, B_J6_stringSize_0f7a4_3, B_J6_stringSize_0f7a4_4, x_const, x_iadd, x_isub, x_imul, x_idiv, x_irem, x_ineg, x_dup, x_dup_x1, x_dup2, x_pop, x_goto, x_ifeq, x_ifne, x_iflt, x_ifge, x_ifgt, x_ifle, x_cmpeq, x_cmpne, x_cmplt, x_cmpge, x_cmpgt, x_cmple, x_null, x_nonnull, x_acmpeq, x_acmpne, x_get, x_put, x_putz, x_ald, x_ast, x_bast, x_zast, x_aast, x_alen, x_obj, x_ret, x_retz, x_vret, x_max, x_min, x_copy, x_i2l, qg_none, qg_inl, qg_inr, qg_ite, xr1, xr0, xrE, xri, xl0, xl1, xl2, xl3, xl4, xl5, xl6, xl7, xl8, xl9, xl10, xs0, xs1, xs2, xs3, xs4, xs5, xs6, xs7, xs8, xs9, xs10, xi0, xi1, xi2, xi3, xi4, xi5, xi6, xi7, xi8, xi9, xi10, xc0, xc1, xc2, xc3, xc4, xc5, xc6, xc7, xv1, xv2, xv3, xv4, xv5, xv6, xv7, dT_le, dF_le, dT_lt, dF_lt]
    · rw [if_neg h2]
      by_cases h3 : v < 1000
      · rw [if_pos h3]
        unfold f_J6_stringSize_0f7a4
        refine qa_fn_eq ?_ (by simp)
        simp (disch := omega) [ev_J6_stringSize_0f7a4_0, ev_J6_stringSize_0f7a4_1, ev_J6_stringSize_0f7a4_2, ev_J6_stringSize_0f7a4_3, ev_J6_stringSize_0f7a4_4, B_J6_stringSize_0f7a4_0, B_J6_stringSize_0f7a4_1, B_J6_stringSize_0f7a4_2, B_J6_stringSize_0f7a4_3, B_J6_stringSize_0f7a4_4, x_const, x_iadd, x_isub, x_imul, x_idiv, x_irem, x_ineg, x_dup, x_dup_x1, x_dup2, x_pop, x_goto, x_ifeq, x_ifne, x_iflt, x_ifge, x_ifgt, x_ifle, x_cmpeq, x_cmpne, x_cmplt, x_cmpge, x_cmpgt, x_cmple, x_null, x_nonnull, x_acmpeq, x_acmpne, x_get, x_put, x_putz, x_ald, x_ast, x_bast, x_zast, x_aast, x_alen, x_obj, x_ret, x_retz, x_vret, x_max, x_min, x_copy, x_i2l, qg_none, qg_inl, qg_inr, qg_ite, xr1, xr0, xrE, xri, xl0, xl1, xl2, xl3, xl4, xl5, xl6, xl7, xl8, xl9, xl10, xs0, xs1, xs2, xs3, xs4, xs5, xs6, xs7, xs8, xs9, xs10, xi0, xi1, xi2, xi3, xi4, xi5, xi6, xi7, xi8, xi9, xi10, xc0, xc1, xc2, xc3, xc4, xc5, xc6, xc7, xv1, xv2, xv3, xv4, xv5, xv6, xv7, dT_le, dF_le, dT_lt, dF_lt]
      · rw [if_neg h3]
        by_cases h4 : v < 10000
        · rw [if_pos h4]
          unfold f_J6_stringSize_0f7a4
          refine qa_fn_eq ?_ (by simp)
          simp (disch := omega) [ev_J6_stringSize_0f7a4_0, ev_J6_stringSize_0f7a4_1, ev_J6_stringSize_0f7a4_2, ev_J6_stringSize_0f7a4_3, ev_J6_stringSize_0f7a4_4, B_J6_stringSize_0f7a4_0, B_J6_stringSize_0f7a4_1, B_J6_stringSize_0f7a4_2, B_J6_stringSize_0f7a4_3, B_J6_stringSize_0f7a4_4, x_const, x_iadd, x_isub, x_imul, x_idiv, x_irem, x_ineg, x_dup, x_dup_x1, x_dup2, x_pop, x_goto, x_ifeq, x_ifne, x_iflt, x_ifge, x_ifgt, x_ifle, x_cmpeq, x_cmpne, x_cmplt, x_cmpge, x_cmpgt, x_cmple, x_null, x_nonnull, x_acmpeq, x_acmpne, x_get, x_put, x_putz, x_ald, x_ast, x_bast, x_zast, x_aast, x_alen, x_obj, x_ret, x_retz, x_vret, x_max, x_min, x_copy, x_i2l, qg_none, qg_inl, qg_inr, qg_ite, xr1, xr0, xrE, xri, xl0, xl1, xl2, xl3, xl4, xl5, xl6, xl7, xl8, xl9, xl10, xs0, xs1, xs2, xs3, xs4, xs5, xs6, xs7, xs8, xs9, xs10, xi0, xi1, xi2, xi3, xi4, xi5, xi6, xi7, xi8, xi9, xi10, xc0, xc1, xc2, xc3, xc4, xc5, xc6, xc7, xv1, xv2, xv3, xv4, xv5, xv6, xv7, dT_le, dF_le, dT_lt, dF_lt]
        · rw [if_neg h4]
          unfold f_J6_stringSize_0f7a4
          refine qa_fn_eq ?_ (by simp)
          simp (disch := omega) [ev_J6_stringSize_0f7a4_0, ev_J6_stringSize_0f7a4_1, ev_J6_stringSize_0f7a4_2, ev_J6_stringSize_0f7a4_3, ev_J6_stringSize_0f7a4_4, B_J6_stringSize_0f7a4_0, B_J6_stringSize_0f7a4_1, B_J6_stringSize_0f7a4_2, B_J6_stringSize_0f7a4_3, B_J6_stringSize_0f7a4_4, x_const, x_iadd, x_isub, x_imul, x_idiv, x_irem, x_ineg, x_dup, x_dup_x1, x_dup2, x_pop, x_goto, x_ifeq, x_ifne, x_iflt, x_ifge, x_ifgt, x_ifle, x_cmpeq, x_cmpne, x_cmplt, x_cmpge, x_cmpgt, x_cmple, x_null, x_nonnull, x_acmpeq, x_acmpne, x_get, x_put, x_putz, x_ald, x_ast, x_bast, x_zast, x_aast, x_alen, x_obj, x_ret, x_retz, x_vret, x_max, x_min, x_copy, x_i2l, qg_none, qg_inl, qg_inr, qg_ite, xr1, xr0, xrE, xri, xl0, xl1, xl2, xl3, xl4, xl5, xl6, xl7, xl8, xl9, xl10, xs0, xs1, xs2, xs3, xs4, xs5, xs6, xs7, xs8, xs9, xs10, xi0, xi1, xi2, xi3, xi4, xi5, xi6, xi7, xi8, xi9, xi10, xc0, xc1, xc2, xc3, xc4, xc5, xc6, xc7, xv1, xv2, xv3, xv4, xv5, xv6, xv7, dT_le, dF_le, dT_lt, dF_lt]
theorem c_gc0 {kd : Int → Nat × Int} {w : Nat × Nat × Nat} {m : Int → Int → Int} {V v e : Int} (h : 0 ≤ v ∧ v < 100000) : qa_ev P_J6_getChars_ba4f3 0 [(0, v), (0, e), (1, V), (9, 0), (9, 0), (9, 0), (9, 0)] [] (m, kd, w) = qa_ev P_J6_getChars_ba4f3 3 [(0, -v), (0, e), (1, V), (9, 0), (9, 0), (0, e), (0, 0)] [] (m, kd, w) := by
  simp (disch := omega) [ev_J6_getChars_ba4f3_0, ev_J6_getChars_ba4f3_1, ev_J6_getChars_ba4f3_2, ev_J6_getChars_ba4f3_4, ev_J6_getChars_ba4f3_5, ev_J6_getChars_ba4f3_6, B_J6_getChars_ba4f3_0, B_J6_getChars_ba4f3_1, B_J6_getChars_ba4f3_2, B_J6_getChars_ba4f3_3, B_J6_getChars_ba4f3_4, B_J6_getChars_ba4f3_5, B_J6_getChars_ba4f3_6, x_const, x_iadd, x_isub, x_imul, x_idiv, x_irem, x_ineg, x_dup, x_dup_x1, x_dup2, x_pop, x_goto, x_ifeq, x_ifne, x_iflt, x_ifge, x_ifgt, x_ifle, x_cmpeq, x_cmpne, x_cmplt, x_cmpge, x_cmpgt, x_cmple, x_null, x_nonnull, x_acmpeq, x_acmpne, x_get, x_put, x_putz, x_ald, x_ast, x_bast, x_zast, x_aast, x_alen, x_obj, x_ret, x_retz, x_vret, x_max, x_min, x_copy, x_i2l, qg_none, qg_inl, qg_inr, qg_ite, xr1, xr0, xrE, xri, xl0, xl1, xl2, xl3, xl4, xl5, xl6, xl7, xl8, xl9, xl10, xs0, xs1, xs2, xs3, xs4, xs5, xs6, xs7, xs8, xs9, xs10, xi0, xi1, xi2, xi3, xi4, xi5, xi6, xi7, xi8, xi9, xi10, xc0, xc1, xc2, xc3, xc4, xc5, xc6, xc7, xv1, xv2, xv3, xv4, xv5, xv6, xv7, dT_le, dF_le, dT_lt, dF_lt]
theorem c_getChars {m : Int → Int → Int} {kd : Int → Nat × Int} {w : Nat × Nat × Nat} {V cap v L : Int} (kV : kd V = (102, cap)) (hc : cap ≤ 1000) (h : 0 ≤ v ∧ v < 100000) (hL : 0 ≤ L ∧ L + ((tdg v).length : Int) ≤ cap) : ∃ m', f_J6_getChars_ba4f3 [(0, v), (0, L + ((tdg v).length : Int)), (1, V)] (m, kd, w) = some (.inl (some (0, L)), (m', kd, w)) ∧ (∀ c, c ≠ V → m' c = m c) ∧ ∀ i, m' V i = if L ≤ i ∧ i < L + ((tdg v).length : Int) then (tdg v).getD (i - L).toNat 0 else m V i := by
  have cn : ∀ (mm : Int → Int → Int) (p x c : Int), c ≠ V → qa_up mm V p x c = mm c := fun mm p x c hcc => by
    funext i
    exact qa_up_no _ (fun z => hcc z.1)
  have g0 := fun e => c_gc0 (kd := kd) (w := w) (m := m) (V := V) (e := e) h
  unfold tdg at hL ⊢
  by_cases h1 : v < 10
  · rw [if_pos h1] at hL ⊢
    have el : (([48 + v] : List Int).length : Int) = 1 := rfl
    rw [el] at hL ⊢
    have g := c_gc4 (w := w) (m := m) (v := v) (p := L + 1) (x := L + 1) (y3 := 0) (y4 := 0) (Or.inr rfl) (Or.inr rfl) kV ⟨h.1, by omega⟩ ⟨by omega, by omega, by omega⟩ hc
    rw [if_pos h1] at g
    have e1 : L + 1 - 1 = L := by omega
    rw [e1] at g
    have E : qa_fn P_J6_getChars_ba4f3 7 [(0, v), (0, L + 1), (1, V)] (m, kd, w) = _ := qa_fn_eq ((g0 _).trans g) (by simp)
    refine ⟨qa_up m V L (48 + v), E, fun c hcc => cn _ _ _ c hcc, fun i => ?_⟩
    · rw [qa_upV]
      by_cases hi : L ≤ i ∧ i < L + 1
      · have : i = L := by omega
        subst this
        rw [if_pos rfl, if_pos hi, show (i - i).toNat = 0 by omega]
        rfl
      · rw [if_neg (by omega), if_neg hi]
  · rw [if_neg h1] at hL ⊢
    by_cases h2 : v < 100
    · rw [if_pos h2] at hL ⊢
      have el : (([48 + v / 10, 48 + v % 10] : List Int).length : Int) = 2 := rfl
      rw [el] at hL ⊢
      have g := c_gc4 (w := w) (m := m) (v := v) (p := L + 2) (x := L + 2) (y3 := 0) (y4 := 0) (Or.inr rfl) (Or.inr rfl) kV ⟨h.1, by omega⟩ ⟨by omega, by omega, by omega⟩ hc
      rw [if_neg h1] at g
      have e1 : L + 2 - 2 = L := by omega
      rw [e1] at g
      have E : qa_fn P_J6_getChars_ba4f3 7 [(0, v), (0, L + 2), (1, V)] (m, kd, w) = _ := qa_fn_eq ((g0 _).trans g) (by simp)
      refine ⟨_, E, fun c hcc => by rw [cn _ _ _ c hcc, cn _ _ _ c hcc], fun i => ?_⟩
      rw [qa_upV, qa_upV]
      by_cases hi : L ≤ i ∧ i < L + 2
      · rw [if_pos hi]
        have : i = L ∨ i = L + 1 := by omega
        rcases this with e | e
        · rw [if_pos e, e, show (L - L).toNat = 0 by omega]; rfl
        · rw [if_neg (by omega), if_pos (by omega), e, show (L + 1 - L).toNat = 1 by omega]; rfl
      · rw [if_neg (by omega), if_neg (by omega), if_neg hi]
    · rw [if_neg h2] at hL ⊢
      by_cases h3 : v < 1000
      · rw [if_pos h3] at hL ⊢
        have el : (([48 + v / 100, 48 + v / 10 % 10, 48 + v % 10] : List Int).length : Int) = 3 := rfl
        rw [el] at hL ⊢
        have g := c_gc3 (w := w) (m := m) (v := v) (p := L + 3) (x := L + 3) (y3 := 0) (y4 := 0) (Or.inr rfl) (Or.inr rfl) kV ⟨by omega, by omega⟩ ⟨by omega, by omega⟩ hc
        have g' := c_gc4 (w := w) (m := qa_up (qa_up m V (L + 3 - 1) (48 + v % 10)) V (L + 3 - 2) (48 + v / 10 % 10)) (p := L + 3 - 2) (x := L + 3) (v := v / 100) (y3 := -(v / 100)) (y4 := v % 100) (Or.inl rfl) (Or.inl rfl) kV ⟨by omega, by omega⟩ ⟨by omega, by omega, by omega⟩ hc
        rw [if_pos (by omega)] at g'
        have e1 : L + 3 - 2 - 1 = L := by omega
        rw [e1] at g'
        have E : qa_fn P_J6_getChars_ba4f3 7 [(0, v), (0, L + 3), (1, V)] (m, kd, w) = _ := qa_fn_eq ((g0 _).trans (g.trans g')) (by simp)
        refine ⟨_, E, fun c hcc => by rw [cn _ _ _ c hcc, cn _ _ _ c hcc, cn _ _ _ c hcc], fun i => ?_⟩
        rw [qa_upV, qa_upV, qa_upV]
        by_cases hi : L ≤ i ∧ i < L + 3
        · rw [if_pos hi]
          have : i = L ∨ i = L + 1 ∨ i = L + 2 := by omega
          rcases this with e | e | e
          · rw [if_pos e, e, show (L - L).toNat = 0 by omega]; rfl
          · rw [if_neg (by omega), if_pos (by omega), e, show (L + 1 - L).toNat = 1 by omega]; rfl
          · rw [if_neg (by omega), if_neg (by omega), if_pos (by omega), e, show (L + 2 - L).toNat = 2 by omega]; rfl
        · rw [if_neg (by omega), if_neg (by omega), if_neg (by omega), if_neg hi]
      · rw [if_neg h3] at hL ⊢
        by_cases h4 : v < 10000
        · rw [if_pos h4] at hL ⊢
          have el : (([48 + v / 1000, 48 + v / 100 % 10, 48 + v / 10 % 10, 48 + v % 10] : List Int).length : Int) = 4 := rfl
          rw [el] at hL ⊢
          have g := c_gc3 (w := w) (m := m) (v := v) (p := L + 4) (x := L + 4) (y3 := 0) (y4 := 0) (Or.inr rfl) (Or.inr rfl) kV ⟨by omega, by omega⟩ ⟨by omega, by omega⟩ hc
          have g' := c_gc4 (w := w) (m := qa_up (qa_up m V (L + 4 - 1) (48 + v % 10)) V (L + 4 - 2) (48 + v / 10 % 10)) (p := L + 4 - 2) (x := L + 4) (v := v / 100) (y3 := -(v / 100)) (y4 := v % 100) (Or.inl rfl) (Or.inl rfl) kV ⟨by omega, by omega⟩ ⟨by omega, by omega, by omega⟩ hc
          rw [if_neg (by omega)] at g'
          have e1 : L + 4 - 2 - 2 = L := by omega
          have d1 : v / 100 / 10 = v / 1000 := by omega
          rw [e1, d1] at g'
          have E : qa_fn P_J6_getChars_ba4f3 7 [(0, v), (0, L + 4), (1, V)] (m, kd, w) = _ := qa_fn_eq ((g0 _).trans (g.trans g')) (by simp)
          refine ⟨_, E, fun c hcc => by rw [cn _ _ _ c hcc, cn _ _ _ c hcc, cn _ _ _ c hcc, cn _ _ _ c hcc], fun i => ?_⟩
          rw [qa_upV, qa_upV, qa_upV, qa_upV]
          by_cases hi : L ≤ i ∧ i < L + 4
          · rw [if_pos hi]
            have : i = L ∨ i = L + 1 ∨ i = L + 2 ∨ i = L + 3 := by omega
            rcases this with e | e | e | e
            · rw [if_pos e, e, show (L - L).toNat = 0 by omega]; rfl
            · rw [if_neg (by omega), if_pos (by omega), e, show (L + 1 - L).toNat = 1 by omega]; rfl
            · rw [if_neg (by omega), if_neg (by omega), if_pos (by omega), e, show (L + 2 - L).toNat = 2 by omega]; rfl
            · rw [if_neg (by omega), if_neg (by omega), if_neg (by omega), if_pos (by omega), e, show (L + 3 - L).toNat = 3 by omega]; rfl
          · rw [if_neg (by omega), if_neg (by omega), if_neg (by omega), if_neg (by omega), if_neg hi]
        · rw [if_neg h4] at hL ⊢
          have el : (([48 + v / 10000, 48 + v / 1000 % 10, 48 + v / 100 % 10, 48 + v / 10 % 10, 48 + v % 10] : List Int).length : Int) = 5 := rfl
          rw [el] at hL ⊢
          have g := c_gc3 (w := w) (m := m) (v := v) (p := L + 5) (x := L + 5) (y3 := 0) (y4 := 0) (Or.inr rfl) (Or.inr rfl) kV ⟨by omega, by omega⟩ ⟨by omega, by omega⟩ hc
          have g2 := c_gc3 (w := w) (m := qa_up (qa_up m V (L + 5 - 1) (48 + v % 10)) V (L + 5 - 2) (48 + v / 10 % 10)) (p := L + 5 - 2) (x := L + 5) (v := v / 100) (y3 := -(v / 100)) (y4 := v % 100) (Or.inl rfl) (Or.inl rfl) kV ⟨by omega, by omega⟩ ⟨by omega, by omega⟩ hc
          have g' := c_gc4 (w := w) (m := qa_up (qa_up (qa_up (qa_up m V (L + 5 - 1) (48 + v % 10)) V (L + 5 - 2) (48 + v / 10 % 10)) V (L + 5 - 2 - 1) (48 + v / 100 % 10)) V (L + 5 - 2 - 2) (48 + v / 100 / 10 % 10)) (p := L + 5 - 2 - 2) (x := L + 5) (v := v / 100 / 100) (y3 := -(v / 100 / 100)) (y4 := v / 100 % 100) (Or.inl rfl) (Or.inl rfl) kV ⟨by omega, by omega⟩ ⟨by omega, by omega, by omega⟩ hc
          rw [if_pos (by omega)] at g'
          have e1 : L + 5 - 2 - 2 - 1 = L := by omega
          have d1 : v / 100 / 100 = v / 10000 := by omega
          have d2 : v / 100 / 10 = v / 1000 := by omega
          rw [e1] at g'
          rw [d1] at g' g2
          rw [d2] at g' g2
          have E : qa_fn P_J6_getChars_ba4f3 7 [(0, v), (0, L + 5), (1, V)] (m, kd, w) = _ := qa_fn_eq ((g0 _).trans (g.trans (g2.trans g'))) (by simp)
          refine ⟨_, E, fun c hcc => by rw [cn _ _ _ c hcc, cn _ _ _ c hcc, cn _ _ _ c hcc, cn _ _ _ c hcc, cn _ _ _ c hcc], fun i => ?_⟩
          rw [qa_upV, qa_upV, qa_upV, qa_upV, qa_upV]
          by_cases hi : L ≤ i ∧ i < L + 5
          · rw [if_pos hi]
            have : i = L ∨ i = L + 1 ∨ i = L + 2 ∨ i = L + 3 ∨ i = L + 4 := by omega
            rcases this with e | e | e | e | e
            · rw [if_pos e, e, show (L - L).toNat = 0 by omega]; rfl
            · rw [if_neg (by omega), if_pos (by omega), e, show (L + 1 - L).toNat = 1 by omega]; rfl
            · rw [if_neg (by omega), if_neg (by omega), if_pos (by omega), e, show (L + 2 - L).toNat = 2 by omega]; rfl
            · rw [if_neg (by omega), if_neg (by omega), if_neg (by omega), if_pos (by omega), e, show (L + 3 - L).toNat = 3 by omega]; rfl
            · rw [if_neg (by omega), if_neg (by omega), if_neg (by omega), if_neg (by omega), if_pos (by omega), e, show (L + 4 - L).toNat = 4 by omega]; rfl
          · rw [if_neg (by omega), if_neg (by omega), if_neg (by omega), if_neg (by omega), if_neg (by omega), if_neg hi]
theorem c_appI5 {m m1 m2 : Int → Int → Int} {kd kd1 : Int → Nat × Int} {n c s n1 c1 s1 : Nat} {L V' cap' v K : Int} (p1 : kd 75 = (2, 0)) (p4 : m 75 3 = L) (ss : f_J6_stringSize_0f7a4 [(0, v)] (m, kd, n, c, s) = some (.inl (some (0, K)), (m, kd, n, c, s))) (e1 : f_J5_ensureCapacityInternal_d00df [(1, 75), (0, L + K)] (m, kd, n, c, s) = some (.inl none, (m1, kd1, n1, c1, s1))) (q1 : kd1 75 = (2, 0)) (q2 : m1 75 0 = V') (q3 : m1 75 1 = 0) (q5 : kd1 V' = (102, cap')) (gc : f_J6_getChars_ba4f3 [(0, v), (0, L + K), (1, V')] (m1, kd1, n1, c1, s1) = some (.inl (some (0, L)), (m2, kd1, n1, c1, s1))) (hL : 0 ≤ L ∧ L ≤ 200 ∧ 0 ≤ K ∧ K ≤ 10) (hle : n ≤ n1 ∧ c ≤ c1 ∧ s ≤ s1) : f_J4_append_bf812 [(1, 75), (0, v)] (m, kd, n, c, s) = some (.inl (some (1, 75)), (qa_up m2 75 3 (L + K), kd1, n1, c1, s1)) := by
  have la := c_lat5 (w := (n1, c1, s1)) q1 q3
  have a5 : f_J5_append_c97b9 [(1, 75), (0, v)] (m, kd, n, c, s) = some (.inl (some (1, 75)), (qa_up m2 75 3 (L + K), kd1, n1, c1, s1)) := by
    unfold f_J5_append_c97b9
    refine qa_fn_eq ?_ (by simp; exact hle)
    simp (disch := omega) [ev_J5_append_c97b9_0, ev_J5_append_c97b9_1, ev_J5_append_c97b9_2, B_J5_append_c97b9_0, B_J5_append_c97b9_1, B_J5_append_c97b9_2, x_const, x_iadd, x_isub, x_imul, x_idiv, x_irem, x_ineg, x_dup, x_dup_x1, x_dup2, x_pop, x_goto, x_ifeq, x_ifne, x_iflt, x_ifge, x_ifgt, x_ifle, x_cmpeq, x_cmpne, x_cmplt, x_cmpge, x_cmpgt, x_cmple, x_null, x_nonnull, x_acmpeq, x_acmpne, x_get, x_put, x_putz, x_ald, x_ast, x_bast, x_zast, x_aast, x_alen, x_obj, x_ret, x_retz, x_vret, x_max, x_min, x_copy, x_i2l, qg_none, qg_inl, qg_inr, qg_ite, xr1, xr0, xrE, xri, xl0, xl1, xl2, xl3, xl4, xl5, xl6, xl7, xl8, xl9, xl10, xs0, xs1, xs2, xs3, xs4, xs5, xs6, xs7, xs8, xs9, xs10, xi0, xi1, xi2, xi3, xi4, xi5, xi6, xi7, xi8, xi9, xi10, xc0, xc1, xc2, xc3, xc4, xc5, xc6, xc7, xv1, xv2, xv3, xv4, xv5, xv6, xv7, dT_le, dF_le, dT_lt, dF_lt, p1, p4, ss, e1, q1, q2, q5, la, gc]
  unfold f_J4_append_bf812
  refine qa_fn_eq ?_ (by simp; exact hle)
  simp (disch := omega) [ev_J4_append_bf812_0, B_J4_append_bf812_0, x_const, x_iadd, x_isub, x_imul, x_idiv, x_irem, x_ineg, x_dup, x_dup_x1, x_dup2, x_pop, x_goto, x_ifeq, x_ifne, x_iflt, x_ifge, x_ifgt, x_ifle, x_cmpeq, x_cmpne, x_cmplt, x_cmpge, x_cmpgt, x_cmple, x_null, x_nonnull, x_acmpeq, x_acmpne, x_get, x_put, x_putz, x_ald, x_ast, x_bast, x_zast, x_aast, x_alen, x_obj, x_ret, x_retz, x_vret, x_max, x_min, x_copy, x_i2l, qg_none, qg_inl, qg_inr, qg_ite, xr1, xr0, xrE, xri, xl0, xl1, xl2, xl3, xl4, xl5, xl6, xl7, xl8, xl9, xl10, xs0, xs1, xs2, xs3, xs4, xs5, xs6, xs7, xs8, xs9, xs10, xi0, xi1, xi2, xi3, xi4, xi5, xi6, xi7, xi8, xi9, xi10, xc0, xc1, xc2, xc3, xc4, xc5, xc6, xc7, xv1, xv2, xv3, xv4, xv5, xv6, xv7, dT_le, dF_le, dT_lt, dF_lt, p1, a5]
theorem c_appI {l : List Int} {V cap g0 : Int} {m0 : Int → Int → Int} {kd0 : Int → Nat × Int} {n0 c0 s0 : Nat} {m : Int → Int → Int} {kd : Int → Nat × Int} {n c s : Nat} (hP : Pg l V cap m kd n) (hF : PgF g0 m0 kd0 n0 c0 s0 cap m kd n c s) {v : Int} (hv : 0 ≤ v ∧ v < 100000) (hl : (l.length : Int) + 5 ≤ 142) : ∃ V' cap' m' kd' n' c' s', f_J4_append_bf812 [(1, 75), (0, v)] (m, kd, n, c, s) = some (.inl (some (1, 75)), (m', kd', n', c', s')) ∧ Pg (l ++ tdg v) V' cap' m' kd' n' ∧ PgF g0 m0 kd0 n0 c0 s0 cap' m' kd' n' c' s' ∧ n ≤ n' ∧ c ≤ c' ∧ s ≤ s' := by
  obtain ⟨⟨t1, t2⟩, t3⟩ := tdg_r hv
  obtain ⟨V', cap', m1, kd1, n1, c1, s1, e1, e2, e3, e4, e5, e6, e7⟩ := c_ens hP hF (need := (l.length : Int) + ((tdg v).length : Int)) ⟨by omega, by omega, by omega⟩
  obtain ⟨p1, p2, p3, p4, p5, p6, p7, p8, p9, p10, p11, p12, p13⟩ := id hP
  obtain ⟨q1, q2, q3, q4, q5, q6, q7, q8, q9, q10, q11, q12, q13⟩ := id e2
  have ss := c_ss (m := m) (kd := kd) (w := (n, c, s)) hv
  obtain ⟨m2, g1, g2, g3⟩ := c_getChars (m := m1) (w := (n1, c1, s1)) (L := (l.length : Int)) q5 (by omega) hv ⟨by omega, e4⟩
  have hV75 : V' ≠ 75 := by omega
  refine ⟨V', cap', qa_up m2 75 3 ((l.length : Int) + ((tdg v).length : Int)), kd1, n1, c1, s1, c_appI5 p1 p4 ss e1 q1 q2 q3 q5 g1 ⟨by omega, by omega, by omega, by omega⟩ ⟨e5, e6, e7⟩, Pg_app e2 e4 t3 (fun j hj => ?_) (qa_up_hit _ _ _ _) (fun i => ?_), PgF_app e2 e3 (fun x x1 x2 => ?_), e5, e6, e7⟩
  · rw [qa_up_no _ (fun z => hj z.2), g2 75 (fun z => hV75 z.symm)]
  · rw [qa_up_no _ (fun z => hV75 z.1), g3]
  · rw [← g2 x x2]
    funext i
    exact qa_up_no _ (fun z => x1 z.1)
