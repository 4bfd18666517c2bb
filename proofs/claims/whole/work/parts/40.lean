theorem zsum_b {g : Int → Int} {X : Int} (h : ∀ i, 0 ≤ i → i < 6 → 0 ≤ g i ∧ g i ≤ X) : 0 ≤ zsum g 6 ∧ zsum g 6 ≤ 6 * X := by
  have h0 := h 0 (by decide) (by decide)
  have h1 := h 1 (by decide) (by decide)
  have h2 := h 2 (by decide) (by decide)
  have h3 := h 3 (by decide) (by decide)
  have h4 := h 4 (by decide) (by decide)
  have h5 := h 5 (by decide) (by decide)
  simp [zsf]
  omega
theorem zW.cn {M : Int} {A : zA} (hW : zW M A) : (0 ≤ zbs A ∧ zbs A ≤ 6000000) ∧ (0 ≤ zds A ∧ zds A ≤ 3000000) ∧ ∀ r, 0 ≤ r → r < 6 → 0 ≤ zd1 A r ∧ zd1 A r ≤ 500000 := by
  have hg := hW.gs
  have ht := hW.tn
  have hd : ∀ r, 0 ≤ r → r < 6 → 0 ≤ zd1 A r ∧ zd1 A r ≤ 500000 := fun r r1 r2 => by
    unfold zd1
    split
    · rename_i h
      have := hW.2.2.2.2.2.2.2.2 r r1 r2 h
      unfold zWd at this
      omega
    · decide
  refine ⟨?_, ?_, hd⟩
  · have := zsum_b (g := fun r => if A.2.2.1 r 0 = 1 then A.2.2.1 r 6 else 0) (X := 1000000) (fun r r1 r2 => by
      split
      · rename_i h
        have := hW.rn ⟨r1, r2, h⟩
        omega
      · decide)
    unfold zbs
    omega
  · exact zsum_b (X := 500000) hd
theorem zcb_of {m m' : Int → Int → Int} {A A' : zA} {M X : Int} (hX : zcb m X) (h : zcn m A m' A') (hW : zW M A) (hW' : zW M A') : zcb m' (X + 10000000) := by
  obtain ⟨x1, x2, x3, x4⟩ := hX
  obtain ⟨c1, c2, c3, c4⟩ := h
  have g := hW.gs
  have g' := hW'.gs
  obtain ⟨a1, a2, a3⟩ := hW.cn
  obtain ⟨b1, b2, b3⟩ := hW'.cn
  refine ⟨by omega, by omega, by omega, fun r r1 r2 => ?_⟩
  have := x4 r r1 r2
  have := c4 r r1 r2
  have := a3 r r1 r2
  have := b3 r r1 r2
  omega
theorem QS.fm {st : Int → Int} {m m' : Int → Int → Int} (h : QS st m) (hf : zfm m m') : QS st m' := fun i i1 i2 => by
  rw [hf.1 78 (by decide) (by decide) (by decide)]; exact h i i1 i2
theorem zcut_b (st : Int → Int) (b : Int) {A : zA} {n n' : Nat} (hn : n' = n) : zCut st b n' A = zCut st b n A := by rw [hn]
theorem m_cuts {m : Int → Int → Int} {kd : Int → Nat × Int} {w : Nat × Nat × Nat} {A : zA} (hK : KM kd) (hR : RM m) (hQ : QR A (m 79)) {M : Int} (hW : zW M A) {st : Int → Int} (hS : QS st m) (hs : zS st) {b : Int} (hb : zBl A b) (hX : zcb m 80000000) : ∃ m', f_X12_cuts [(1, 77), (0, b)] (m, kd, w) = some (.inl none, (m', kd, w)) ∧ QR (zCutB st b A) (m' 79) ∧ zfm m m' ∧ zcn m A m' (zCutB st b A) := by
  have loop : ∀ (n : Nat) (A' : zA) (mk : Int → Int → Int), zW M A' → zBl A' b → QR A' (mk 79) → zfm m mk → zcn m A mk A' → A'.2.1 b 5 - A'.2.1 b 4 = n → ∃ m', qa_ev P_X12_cuts 1 [(1, 77), (0, b), (0, zCause A' st b)] [] (mk, kd, w) = some (.inl none, (m', kd, w)) ∧ QR (zCut st b n A') (m' 79) ∧ zfm m m' ∧ zcn m A m' (zCut st b n A') := by
    intro n
    induction n with
    | zero =>
      intro A' mk hW' hb' hQk hfk hck hn
      refine ⟨mk, ?_, hQk, hfk, hck⟩
      have hc : zCause A' st b = -1 := by
        have := zcause_le A' st b
        apply Classical.byContradiction
        intro h
        have := this.2.2 h
        omega
      rw [ev_X12_cuts_1]
      simp (disch := omega) [ev_X12_cuts_0, ev_X12_cuts_2, B_X12_cuts_0, B_X12_cuts_1, B_X12_cuts_2, x_const, x_iadd, x_isub, x_imul, x_idiv, x_irem, x_ineg, x_dup, x_dup_x1, x_dup2, x_pop, x_goto, x_ifeq, x_ifne, x_iflt, x_ifge, x_ifgt, x_ifle, x_cmpeq, x_cmpne, x_cmplt, x_cmpge, x_cmpgt, x_cmple, x_null, x_nonnull, x_acmpeq, x_acmpne, x_get, x_put, x_putz, x_ald, x_ast, x_bast, x_zast, x_aast, x_alen, x_obj, x_ret, x_retz, x_vret, x_max, x_min, x_copy, x_i2l, qg_none, qg_inl, qg_inr, qg_ite, xr1, xr0, xrE, xri, xl0, xl1, xl2, xl3, xl4, xl5, xl6, xl7, xl8, xl9, xl10, xs0, xs1, xs2, xs3, xs4, xs5, xs6, xs7, xs8, xs9, xs10, xi0, xi1, xi2, xi3, xi4, xi5, xi6, xi7, xi8, xi9, xi10, xc0, xc1, xc2, xc3, xc4, xc5, xc6, xc7, xv1, xv2, xv3, xv4, xv5, xv6, xv7, dT_le, dF_le, dT_lt, dF_lt, hc]
    | succ n ih =>
      intro A' mk hW' hb' hQk hfk hck hn
      have hcl := zcause_le A' st b
      by_cases hc : zCause A' st b = -1
      · refine ⟨mk, ?_, ?_, hfk, ?_⟩
        · rw [ev_X12_cuts_1]
          simp (disch := omega) [ev_X12_cuts_0, ev_X12_cuts_2, B_X12_cuts_0, B_X12_cuts_1, B_X12_cuts_2, x_const, x_iadd, x_isub, x_imul, x_idiv, x_irem, x_ineg, x_dup, x_dup_x1, x_dup2, x_pop, x_goto, x_ifeq, x_ifne, x_iflt, x_ifge, x_ifgt, x_ifle, x_cmpeq, x_cmpne, x_cmplt, x_cmpge, x_cmpgt, x_cmple, x_null, x_nonnull, x_acmpeq, x_acmpne, x_get, x_put, x_putz, x_ald, x_ast, x_bast, x_zast, x_aast, x_alen, x_obj, x_ret, x_retz, x_vret, x_max, x_min, x_copy, x_i2l, qg_none, qg_inl, qg_inr, qg_ite, xr1, xr0, xrE, xri, xl0, xl1, xl2, xl3, xl4, xl5, xl6, xl7, xl8, xl9, xl10, xs0, xs1, xs2, xs3, xs4, xs5, xs6, xs7, xs8, xs9, xs10, xi0, xi1, xi2, xi3, xi4, xi5, xi6, xi7, xi8, xi9, xi10, xc0, xc1, xc2, xc3, xc4, xc5, xc6, xc7, xv1, xv2, xv3, xv4, xv5, xv6, xv7, dT_le, dF_le, dT_lt, dF_lt, hc]
        · simp only [zCut, if_pos hc]; exact hQk
        · simp only [zCut, if_pos hc]; exact hck
      · have hp := hcl.2.2 hc
        obtain ⟨m1, i1, i2, i3, i4⟩ := m_cutsOne (w := w) (c := zCause A' st b) hK (zfm_RM hfk hR) hQk hW' hb' (by omega) hp (zcb_of hX hck hW hW')
        have hW1 := zW_cut1 (c := zCause A' st b) hW' hb' (by omega) hp
        have hb1 := (zK0_cut1 (c := zCause A' st b) hW' hb' (by omega) hp).bl.mpr hb'
        have hf1 := hfk.trans i3
        obtain ⟨m2, j1, j2, j3, j4⟩ := ih (zCut1 A' b (zCause A' st b)) m1 hW1 hb1 i2 hf1 (hck.trans i4) (by
          rw [zCut1_B1 _ _ _ _ (by decide) (by decide) (by decide), zCut1_B4, if_pos rfl]
          push_cast at hn
          omega)
        have hca := m_causeOf (w := w) hK (zfm_RM hf1 hR) i2 hW1 (hS.fm hf1) hs hb1
        obtain ⟨k77, k78, k79, k80, k81, k82, k83, k84, k85, k86, k87, k88, k89, k90⟩ := id hK
        refine ⟨m2, ?_, ?_, j3, ?_⟩
        · rw [ev_X12_cuts_1]
          simp (disch := omega) [ev_X12_cuts_0, ev_X12_cuts_2, B_X12_cuts_0, B_X12_cuts_1, B_X12_cuts_2, x_const, x_iadd, x_isub, x_imul, x_idiv, x_irem, x_ineg, x_dup, x_dup_x1, x_dup2, x_pop, x_goto, x_ifeq, x_ifne, x_iflt, x_ifge, x_ifgt, x_ifle, x_cmpeq, x_cmpne, x_cmplt, x_cmpge, x_cmpgt, x_cmple, x_null, x_nonnull, x_acmpeq, x_acmpne, x_get, x_put, x_putz, x_ald, x_ast, x_bast, x_zast, x_aast, x_alen, x_obj, x_ret, x_retz, x_vret, x_max, x_min, x_copy, x_i2l, qg_none, qg_inl, qg_inr, qg_ite, xr1, xr0, xrE, xri, xl0, xl1, xl2, xl3, xl4, xl5, xl6, xl7, xl8, xl9, xl10, xs0, xs1, xs2, xs3, xs4, xs5, xs6, xs7, xs8, xs9, xs10, xi0, xi1, xi2, xi3, xi4, xi5, xi6, xi7, xi8, xi9, xi10, xc0, xc1, xc2, xc3, xc4, xc5, xc6, xc7, xv1, xv2, xv3, xv4, xv5, xv6, xv7, dT_le, dF_le, dT_lt, dF_lt, hc, k77, i1, hca, j1]
        · simp only [zCut, if_neg hc]; exact j2
        · simp only [zCut, if_neg hc]; exact j4
  have hbn := hW.bn hb
  have hca := m_causeOf (w := w) hK hR hQ hW hS hs hb
  obtain ⟨m', j1, j2, j3, j4⟩ := loop (A.2.1 b 5 - A.2.1 b 4).toNat A m hW hb hQ (zfm.refl m) (zcn.refl m A) (by omega)
  obtain ⟨k77, k78, k79, k80, k81, k82, k83, k84, k85, k86, k87, k88, k89, k90⟩ := id hK
  refine ⟨m', ?_, j2, j3, j4⟩
  unfold f_X12_cuts
  refine qa_fn_eq ?_ (by simp)
  simp (disch := omega) [ev_X12_cuts_0, ev_X12_cuts_2, B_X12_cuts_0, B_X12_cuts_1, B_X12_cuts_2, x_const, x_iadd, x_isub, x_imul, x_idiv, x_irem, x_ineg, x_dup, x_dup_x1, x_dup2, x_pop, x_goto, x_ifeq, x_ifne, x_iflt, x_ifge, x_ifgt, x_ifle, x_cmpeq, x_cmpne, x_cmplt, x_cmpge, x_cmpgt, x_cmple, x_null, x_nonnull, x_acmpeq, x_acmpne, x_get, x_put, x_putz, x_ald, x_ast, x_bast, x_zast, x_aast, x_alen, x_obj, x_ret, x_retz, x_vret, x_max, x_min, x_copy, x_i2l, qg_none, qg_inl, qg_inr, qg_ite, xr1, xr0, xrE, xri, xl0, xl1, xl2, xl3, xl4, xl5, xl6, xl7, xl8, xl9, xl10, xs0, xs1, xs2, xs3, xs4, xs5, xs6, xs7, xs8, xs9, xs10, xi0, xi1, xi2, xi3, xi4, xi5, xi6, xi7, xi8, xi9, xi10, xc0, xc1, xc2, xc3, xc4, xc5, xc6, xc7, xv1, xv2, xv3, xv4, xv5, xv6, xv7, dT_le, dF_le, dT_lt, dF_lt, k77, hca, j1]
theorem zBk_6 {A : zA} : zBk A 6 = (zBreak A).2.2.1 := by
  funext r j
  unfold zBk
  by_cases h : r < 6
  · rw [if_pos h]
  · rw [if_neg h]
    exact (if_neg (fun z => h z.1.2.1)).symm
theorem zBk_0 {A : zA} : zBk A 0 = A.2.2.1 := by
  funext r j
  unfold zBk
  by_cases h : r < 0
  · rw [if_pos h]
    exact if_neg (fun z => by have := z.1.1; omega)
  · rw [if_neg h]
theorem m_ticks {m : Int → Int → Int} {kd : Int → Nat × Int} {w : Nat × Nat × Nat} {A : zA} (hK : KM kd) (hR : RM m) (hQ : QR A (m 79)) {M : Int} (hW : zW M A) (ht : A.1 0 < 1000000) {st : Int → Int} (hS : QS st m) (hs : zS st) (hX : zcb m 60000000) : ∃ m', f_X12_ticks [(1, 77)] (m, kd, w) = some (.inl none, (m', kd, w)) ∧ QR (zTick st A) (m' 79) ∧ zfm m m' ∧ zcn m A m' (zTick st A) := by
  have loop2 : ∀ (n : Nat) (k : Nat) (mk : Int → Int → Int), k + n = 4 → QR (zCuts st k (zBreak A)) (mk 79) → zfm m mk → zcn m A mk (zCuts st k (zBreak A)) → ∃ m', qa_ev P_X12_ticks 5 [(1, 77), (0, (k : Int))] [] (mk, kd, w) = some (.inl none, (m', kd, w)) ∧ QR (zTick st A) (m' 79) ∧ zfm m m' ∧ zcn m A m' (zTick st A) := by
    intro n
    induction n with
    | zero =>
      intro k mk h2 hQk hfk hck
      obtain rfl : k = 4 := by omega
      refine ⟨mk, ?_, hQk, hfk, hck⟩
      rw [ev_X12_ticks_5]
      simp (disch := omega) [ev_X12_ticks_0, ev_X12_ticks_1, ev_X12_ticks_2, ev_X12_ticks_3, ev_X12_ticks_4, ev_X12_ticks_6, ev_X12_ticks_7, B_X12_ticks_0, B_X12_ticks_1, B_X12_ticks_2, B_X12_ticks_3, B_X12_ticks_4, B_X12_ticks_5, B_X12_ticks_6, B_X12_ticks_7, x_const, x_iadd, x_isub, x_imul, x_idiv, x_irem, x_ineg, x_dup, x_dup_x1, x_dup2, x_pop, x_goto, x_ifeq, x_ifne, x_iflt, x_ifge, x_ifgt, x_ifle, x_cmpeq, x_cmpne, x_cmplt, x_cmpge, x_cmpgt, x_cmple, x_null, x_nonnull, x_acmpeq, x_acmpne, x_get, x_put, x_putz, x_ald, x_ast, x_bast, x_zast, x_aast, x_alen, x_obj, x_ret, x_retz, x_vret, x_max, x_min, x_copy, x_i2l, qg_none, qg_inl, qg_inr, qg_ite, xr1, xr0, xrE, xri, xl0, xl1, xl2, xl3, xl4, xl5, xl6, xl7, xl8, xl9, xl10, xs0, xs1, xs2, xs3, xs4, xs5, xs6, xs7, xs8, xs9, xs10, xi0, xi1, xi2, xi3, xi4, xi5, xi6, xi7, xi8, xi9, xi10, xc0, xc1, xc2, xc3, xc4, xc5, xc6, xc7, xv1, xv2, xv3, xv4, xv5, xv6, xv7, dT_le, dF_le, dT_lt, dF_lt]
    | succ n ih =>
      intro k mk h2 hQk hfk hck
      have hWk := (zW_cuts st (zW_break hW ht).1 k).1
      have hRk := zfm_RM hfk hR
      have hi := m_isBranch (w := w) hK hRk hQk k
      obtain ⟨k77, k78, k79, k80, k81, k82, k83, k84, k85, k86, k87, k88, k89, k90⟩ := id hK
      by_cases hb : zBl (zCuts st k (zBreak A)) k
      · rw [if_pos hb] at hi
        have e1 : zCuts st (k + 1) (zBreak A) = zCutB st k (zCuts st k (zBreak A)) := by simp only [zCuts, if_pos hb]
        have hXk := zcb_of hX hck hW hWk
        obtain ⟨m1, i1, i2, i3, i4⟩ := m_cuts (w := w) hK hRk hQk hWk (hS.fm hfk) hs hb ⟨by have := hXk.1; omega, by have := hXk.2.1; omega, by have := hXk.2.2.1; omega, fun r r1 r2 => by have := hXk.2.2.2 r r1 r2; omega⟩
        obtain ⟨m2, j1, j2, j3, j4⟩ := ih (k + 1) m1 (by omega) (by rw [e1]; exact i2) (hfk.trans i3) (by rw [e1]; exact hck.trans i4)
        refine ⟨m2, ?_, j2, j3, j4⟩
        push_cast at j1
        rw [ev_X12_ticks_5]
        simp (disch := omega) [ev_X12_ticks_0, ev_X12_ticks_1, ev_X12_ticks_2, ev_X12_ticks_3, ev_X12_ticks_4, ev_X12_ticks_6, ev_X12_ticks_7, B_X12_ticks_0, B_X12_ticks_1, B_X12_ticks_2, B_X12_ticks_3, B_X12_ticks_4, B_X12_ticks_5, B_X12_ticks_6, B_X12_ticks_7, x_const, x_iadd, x_isub, x_imul, x_idiv, x_irem, x_ineg, x_dup, x_dup_x1, x_dup2, x_pop, x_goto, x_ifeq, x_ifne, x_iflt, x_ifge, x_ifgt, x_ifle, x_cmpeq, x_cmpne, x_cmplt, x_cmpge, x_cmpgt, x_cmple, x_null, x_nonnull, x_acmpeq, x_acmpne, x_get, x_put, x_putz, x_ald, x_ast, x_bast, x_zast, x_aast, x_alen, x_obj, x_ret, x_retz, x_vret, x_max, x_min, x_copy, x_i2l, qg_none, qg_inl, qg_inr, qg_ite, xr1, xr0, xrE, xri, xl0, xl1, xl2, xl3, xl4, xl5, xl6, xl7, xl8, xl9, xl10, xs0, xs1, xs2, xs3, xs4, xs5, xs6, xs7, xs8, xs9, xs10, xi0, xi1, xi2, xi3, xi4, xi5, xi6, xi7, xi8, xi9, xi10, xc0, xc1, xc2, xc3, xc4, xc5, xc6, xc7, xv1, xv2, xv3, xv4, xv5, xv6, xv7, dT_le, dF_le, dT_lt, dF_lt, k77, hi, i1, j1]
      · rw [if_neg hb] at hi
        have e1 : zCuts st (k + 1) (zBreak A) = zCuts st k (zBreak A) := by simp only [zCuts, if_neg hb]
        obtain ⟨m2, j1, j2, j3, j4⟩ := ih (k + 1) mk (by omega) (by rw [e1]; exact hQk) hfk (by rw [e1]; exact hck)
        refine ⟨m2, ?_, j2, j3, j4⟩
        push_cast at j1
        rw [ev_X12_ticks_5]
        simp (disch := omega) [ev_X12_ticks_0, ev_X12_ticks_1, ev_X12_ticks_2, ev_X12_ticks_3, ev_X12_ticks_4, ev_X12_ticks_6, ev_X12_ticks_7, B_X12_ticks_0, B_X12_ticks_1, B_X12_ticks_2, B_X12_ticks_3, B_X12_ticks_4, B_X12_ticks_5, B_X12_ticks_6, B_X12_ticks_7, x_const, x_iadd, x_isub, x_imul, x_idiv, x_irem, x_ineg, x_dup, x_dup_x1, x_dup2, x_pop, x_goto, x_ifeq, x_ifne, x_iflt, x_ifge, x_ifgt, x_ifle, x_cmpeq, x_cmpne, x_cmplt, x_cmpge, x_cmpgt, x_cmple, x_null, x_nonnull, x_acmpeq, x_acmpne, x_get, x_put, x_putz, x_ald, x_ast, x_bast, x_zast, x_aast, x_alen, x_obj, x_ret, x_retz, x_vret, x_max, x_min, x_copy, x_i2l, qg_none, qg_inl, qg_inr, qg_ite, xr1, xr0, xrE, xri, xl0, xl1, xl2, xl3, xl4, xl5, xl6, xl7, xl8, xl9, xl10, xs0, xs1, xs2, xs3, xs4, xs5, xs6, xs7, xs8, xs9, xs10, xi0, xi1, xi2, xi3, xi4, xi5, xi6, xi7, xi8, xi9, xi10, xc0, xc1, xc2, xc3, xc4, xc5, xc6, xc7, xv1, xv2, xv3, xv4, xv5, xv6, xv7, dT_le, dF_le, dT_lt, dF_lt, k77, hi, j1]
  have ha0 : ∀ j, (zBreak A).1 j = if j = 0 then A.1 0 + 1 else A.1 j := fun j => rfl
  have tn := hW.tn
  have loop1 : ∀ (n : Nat) (k : Int) (mk : Int → Int → Int), 0 ≤ k → k + n = 6 → QR ((zBreak A).1, A.2.1, zBk A k, A.2.2.2) (mk 79) → zfm m mk → zcn m A mk ((zBreak A).1, A.2.1, zBk A k, A.2.2.2) → 0 ≤ zbs ((zBreak A).1, A.2.1, zBk A k, A.2.2.2) - zbs A → zbs ((zBreak A).1, A.2.1, zBk A k, A.2.2.2) - zbs A ≤ k → ∃ m', qa_ev P_X12_ticks 1 [(1, 77), (0, k)] [] (mk, kd, w) = some (.inl none, (m', kd, w)) ∧ QR (zTick st A) (m' 79) ∧ zfm m m' ∧ zcn m A m' (zTick st A) := by
    intro n
    induction n with
    | zero =>
      intro k mk h1 h2 hQk hfk hck hd1 hd2
      obtain rfl : k = 6 := by omega
      rw [zBk_6] at hQk hck
      obtain ⟨m', j1, j2, j3, j4⟩ := loop2 4 0 mk (by decide) hQk hfk hck
      refine ⟨m', ?_, j2, j3, j4⟩
      rw [ev_X12_ticks_1]
      simp (disch := omega) [ev_X12_ticks_0, ev_X12_ticks_2, ev_X12_ticks_3, ev_X12_ticks_4, ev_X12_ticks_6, ev_X12_ticks_7, B_X12_ticks_0, B_X12_ticks_1, B_X12_ticks_2, B_X12_ticks_3, B_X12_ticks_4, B_X12_ticks_5, B_X12_ticks_6, B_X12_ticks_7, x_const, x_iadd, x_isub, x_imul, x_idiv, x_irem, x_ineg, x_dup, x_dup_x1, x_dup2, x_pop, x_goto, x_ifeq, x_ifne, x_iflt, x_ifge, x_ifgt, x_ifle, x_cmpeq, x_cmpne, x_cmplt, x_cmpge, x_cmpgt, x_cmple, x_null, x_nonnull, x_acmpeq, x_acmpne, x_get, x_put, x_putz, x_ald, x_ast, x_bast, x_zast, x_aast, x_alen, x_obj, x_ret, x_retz, x_vret, x_max, x_min, x_copy, x_i2l, qg_none, qg_inl, qg_inr, qg_ite, xr1, xr0, xrE, xri, xl0, xl1, xl2, xl3, xl4, xl5, xl6, xl7, xl8, xl9, xl10, xs0, xs1, xs2, xs3, xs4, xs5, xs6, xs7, xs8, xs9, xs10, xi0, xi1, xi2, xi3, xi4, xi5, xi6, xi7, xi8, xi9, xi10, xc0, xc1, xc2, xc3, xc4, xc5, xc6, xc7, xv1, xv2, xv3, xv4, xv5, xv6, xv7, dT_le, dF_le, dT_lt, dF_lt]
      exact j1
    | succ n ih =>
      intro k mk h1 h2 hQk hfk hck hd1 hd2
      have hRk := zfm_RM hfk hR
      have hi := m_isReader (w := w) hK hRk hQk k
      have zat : ∀ j, zBk A k k j = A.2.2.1 k j := fun j => if_neg (by omega)
      have zne : ∀ r j, r ≠ k → zBk A (k + 1) r j = zBk A k r j := fun r j h => by
        unfold zBk
        by_cases h' : r < k
        · rw [if_pos h', if_pos (by omega)]
        · rw [if_neg h', if_neg (by omega)]
      have zon : ∀ j, zBk A (k + 1) k j = (zBreak A).2.2.1 k j := fun j => if_pos (by omega)
      have hzr : zRl ((zBreak A).1, A.2.1, zBk A k, A.2.2.2) k ↔ zRl A k := by
        unfold zRl
        simp only [zat]
      have same : (¬ (zRl A k ∧ A.2.2.1 k 4 ≠ -1 ∧ A.2.2.1 k 4 < A.1 0 + 1)) → zBk A (k + 1) = zBk A k := fun h => by
        funext r j
        by_cases e : r = k
        · rw [e, zon, zat]
          exact if_neg h
        · exact zne r j e
      obtain ⟨k77, k78, k79, k80, k81, k82, k83, k84, k85, k86, k87, k88, k89, k90⟩ := id hK
      obtain ⟨r1, r2, r3, r4, r6, r7, r8, r12, r13, r15, r23, r25, r26⟩ := id hRk
      obtain ⟨g0, g1, gC, gI, gB, gJ, gR, gD, gE⟩ := id hQk
      have g0' : mk 79 0 = A.1 0 + 1 := g0
      by_cases hr : zRl A k
      · obtain ⟨s1, s2, s3⟩ := id hr
        obtain ⟨t1, t2, t3, t4, t5, t6, t7, t8, t9, t10, t11, t12, t13, t14⟩ := hW.rn hr
        rw [if_pos (hzr.mpr hr)] at hi
        have e4 : mk 79 (34 + 26 * k + 4) = A.2.2.1 k 4 := (gR k 4 h1 (by omega) ((zat 0).trans s3) (by decide) (by decide)).trans (zat 4)
        have e6 : mk 79 (34 + 26 * k + 6) = A.2.2.1 k 6 := (gR k 6 h1 (by omega) ((zat 0).trans s3) (by decide) (by decide)).trans (zat 6)
        by_cases hc1 : A.2.2.1 k 4 = -1
        · have sm := same (fun z => z.2.1 hc1)
          obtain ⟨m', j1, j2, j3, j4⟩ := ih (k + 1) mk (by omega) (by omega) (by rw [sm]; exact hQk) hfk (by rw [sm]; exact hck) (by rw [sm]; exact hd1) (by rw [sm]; omega)
          refine ⟨m', ?_, j2, j3, j4⟩
          rw [ev_X12_ticks_1]
          simp (disch := omega) [ev_X12_ticks_0, ev_X12_ticks_2, ev_X12_ticks_3, ev_X12_ticks_4, ev_X12_ticks_6, ev_X12_ticks_7, B_X12_ticks_0, B_X12_ticks_1, B_X12_ticks_2, B_X12_ticks_3, B_X12_ticks_4, B_X12_ticks_5, B_X12_ticks_6, B_X12_ticks_7, x_const, x_iadd, x_isub, x_imul, x_idiv, x_irem, x_ineg, x_dup, x_dup_x1, x_dup2, x_pop, x_goto, x_ifeq, x_ifne, x_iflt, x_ifge, x_ifgt, x_ifle, x_cmpeq, x_cmpne, x_cmplt, x_cmpge, x_cmpgt, x_cmple, x_null, x_nonnull, x_acmpeq, x_acmpne, x_get, x_put, x_putz, x_ald, x_ast, x_bast, x_zast, x_aast, x_alen, x_obj, x_ret, x_retz, x_vret, x_max, x_min, x_copy, x_i2l, qg_none, qg_inl, qg_inr, qg_ite, xr1, xr0, xrE, xri, xl0, xl1, xl2, xl3, xl4, xl5, xl6, xl7, xl8, xl9, xl10, xs0, xs1, xs2, xs3, xs4, xs5, xs6, xs7, xs8, xs9, xs10, xi0, xi1, xi2, xi3, xi4, xi5, xi6, xi7, xi8, xi9, xi10, xc0, xc1, xc2, xc3, xc4, xc5, xc6, xc7, xv1, xv2, xv3, xv4, xv5, xv6, xv7, dT_le, dF_le, dT_lt, dF_lt, k77, k79, r2, hi, m_ofReader hK hRk, e4, hc1, j1]
        · by_cases hc2 : A.2.2.1 k 4 < A.1 0 + 1
          · have hbk : ∀ j, (zBreak A).2.2.1 k j = if j = 4 then -1 else if j = 6 then A.2.2.1 k 6 + 1 else A.2.2.1 k j := fun j => if_pos ⟨hr, hc1, hc2⟩
            have hzb : zbs ((zBreak A).1, A.2.1, zBk A (k + 1), A.2.2.2) = zbs ((zBreak A).1, A.2.1, zBk A k, A.2.2.2) + 1 := by
              unfold zbs
              rw [zsum_upd (k := k) h1 (by omega) (g := fun r => if zBk A k r 0 = 1 then zBk A k r 6 else 0) (g' := fun r => if zBk A (k + 1) r 0 = 1 then zBk A (k + 1) r 6 else 0) (fun i hi => by
                show (if zBk A (k + 1) i 0 = 1 then zBk A (k + 1) i 6 else 0) = if zBk A k i 0 = 1 then zBk A k i 6 else 0
                rw [zne _ _ hi, zne _ _ hi])]
              simp only [zat, zon, hbk]
              simp [s3]
              omega
            have h10 : mk 77 10 = m 77 10 + (zbs ((zBreak A).1, A.2.1, zBk A k, A.2.2.2) - zbs A) := by have := hck.2.1; omega
            have x10 := hX.2.1
            obtain ⟨m', j1, j2, j3, j4⟩ := ih (k + 1) (qa_up (qa_up (qa_up mk 79 (34 + 26 * k + 4) (-1)) 79 (34 + 26 * k + 6) (A.2.2.1 k 6 + 1)) 77 10 (mk 77 10 + 1)) (by omega) (by omega) (by
              refine QR_rd hQk (R' := zBk A (k + 1)) h1 (by omega) ?_ ?_ ?_ ?_ ?_
              · intro i hi
                rw [qa_up_no _ (by omega), qa_up_no _ (by omega), qa_up_no _ (by omega)]
              · intro r j hr'
                exact zne r j hr'
              · rw [qa_up_no _ (by omega), qa_up_no _ (by omega), qa_up_no _ (by omega), zon, hbk, if_neg (by decide), if_neg (by decide), gJ k h1 (by omega)]
                exact zat 0
              · intro _ j j1 j2
                rw [zon, hbk, qa_up_no _ (by omega)]
                by_cases e : j = 6
                · rw [e, qa_up_hit]; simp
                · rw [qa_up_no _ (by omega), if_neg e]
                  by_cases e' : j = 4
                  · rw [e', qa_up_hit]; simp
                  · rw [qa_up_no _ (by omega), if_neg e', gR k j h1 (by omega) ((zat 0).trans s3) j1 j2]
                    exact zat j
              · intro _ h9 j j1 j2
                rw [zon, hbk, if_neg (by decide), if_neg (by decide)] at h9
                rw [zon, hbk, if_neg (by omega), if_neg (by omega), qa_up_no _ (by omega), qa_up_no _ (by omega), qa_up_no _ (by omega), gD k j h1 (by omega) ((zat 0).trans s3) (by show zBk A k k 9 ≠ 0; rw [zat]; exact h9) j1 j2]
                exact zat j) (by
              refine ⟨fun c c1 c2 c3 => ?_, fun i i1 i2 i3 => ?_⟩
              · funext i
                rw [qa_up_no _ (by omega), qa_up_no _ (by omega), qa_up_no _ (by omega), hfk.1 c c1 c2 c3]
              · rw [qa_up_no _ (by omega), qa_up_no _ (by omega), qa_up_no _ (by omega), hfk.2 i i1 i2 i3]) (by
              refine ⟨?_, ?_, ?_, fun r q1 q2 => ?_⟩
              · rw [qa_up_no _ (by omega), qa_up_no _ (by omega), qa_up_no _ (by omega)]; exact hck.1
              · rw [qa_up_hit, hzb]
                have := hck.2.1
                omega
              · rw [qa_up_no _ (by omega), qa_up_no _ (by omega), qa_up_no _ (by omega)]
                have e : zds ((zBreak A).1, A.2.1, zBk A (k + 1), A.2.2.2) = zds ((zBreak A).1, A.2.1, zBk A k, A.2.2.2) := by
                  unfold zds
                  rw [zsum_upd (k := k) h1 (by omega) (g := fun r => if zBk A k r 0 = 1 then zBk A k r 9 else 0) (g' := fun r => if zBk A (k + 1) r 0 = 1 then zBk A (k + 1) r 9 else 0) (fun i hi => by
                    show (if zBk A (k + 1) i 0 = 1 then zBk A (k + 1) i 9 else 0) = if zBk A k i 0 = 1 then zBk A k i 9 else 0
                    rw [zne _ _ hi, zne _ _ hi])]
                  simp only [zat, zon, hbk]
                  simp
                rw [e]; exact hck.2.2.1
              · rw [qa_up_no _ (by omega), qa_up_no _ (by omega), qa_up_no _ (by omega)]
                have e : zd1 ((zBreak A).1, A.2.1, zBk A (k + 1), A.2.2.2) r = zd1 ((zBreak A).1, A.2.1, zBk A k, A.2.2.2) r := by
                  unfold zd1
                  by_cases e' : r = k
                  · subst e'
                    simp only [zat, zon, hbk]
                    simp
                  · simp only [zne _ _ e']
                rw [e]; exact hck.2.2.2 r q1 q2) (by omega) (by omega)
            refine ⟨m', ?_, j2, j3, j4⟩
            rw [ev_X12_ticks_1]
            simp (disch := omega) [ev_X12_ticks_0, ev_X12_ticks_2, ev_X12_ticks_3, ev_X12_ticks_4, ev_X12_ticks_6, ev_X12_ticks_7, B_X12_ticks_0, B_X12_ticks_1, B_X12_ticks_2, B_X12_ticks_3, B_X12_ticks_4, B_X12_ticks_5, B_X12_ticks_6, B_X12_ticks_7, x_const, x_iadd, x_isub, x_imul, x_idiv, x_irem, x_ineg, x_dup, x_dup_x1, x_dup2, x_pop, x_goto, x_ifeq, x_ifne, x_iflt, x_ifge, x_ifgt, x_ifle, x_cmpeq, x_cmpne, x_cmplt, x_cmpge, x_cmpgt, x_cmple, x_null, x_nonnull, x_acmpeq, x_acmpne, x_get, x_put, x_putz, x_ald, x_ast, x_bast, x_zast, x_aast, x_alen, x_obj, x_ret, x_retz, x_vret, x_max, x_min, x_copy, x_i2l, qg_none, qg_inl, qg_inr, qg_ite, xr1, xr0, xrE, xri, xl0, xl1, xl2, xl3, xl4, xl5, xl6, xl7, xl8, xl9, xl10, xs0, xs1, xs2, xs3, xs4, xs5, xs6, xs7, xs8, xs9, xs10, xi0, xi1, xi2, xi3, xi4, xi5, xi6, xi7, xi8, xi9, xi10, xc0, xc1, xc2, xc3, xc4, xc5, xc6, xc7, xv1, xv2, xv3, xv4, xv5, xv6, xv7, dT_le, dF_le, dT_lt, dF_lt, dT_eq, dF_eq, qa_up_hit, qa_up_no, k77, k79, r2, hi, m_ofReader hK hRk, m_readerAt, e4, e6, g0', hc1, hc2, j1]
          · have sm := same (fun z => hc2 z.2.2)
            obtain ⟨m', j1, j2, j3, j4⟩ := ih (k + 1) mk (by omega) (by omega) (by rw [sm]; exact hQk) hfk (by rw [sm]; exact hck) (by rw [sm]; exact hd1) (by rw [sm]; omega)
            refine ⟨m', ?_, j2, j3, j4⟩
            rw [ev_X12_ticks_1]
            simp (disch := omega) [ev_X12_ticks_0, ev_X12_ticks_2, ev_X12_ticks_3, ev_X12_ticks_4, ev_X12_ticks_6, ev_X12_ticks_7, B_X12_ticks_0, B_X12_ticks_1, B_X12_ticks_2, B_X12_ticks_3, B_X12_ticks_4, B_X12_ticks_5, B_X12_ticks_6, B_X12_ticks_7, x_const, x_iadd, x_isub, x_imul, x_idiv, x_irem, x_ineg, x_dup, x_dup_x1, x_dup2, x_pop, x_goto, x_ifeq, x_ifne, x_iflt, x_ifge, x_ifgt, x_ifle, x_cmpeq, x_cmpne, x_cmplt, x_cmpge, x_cmpgt, x_cmple, x_null, x_nonnull, x_acmpeq, x_acmpne, x_get, x_put, x_putz, x_ald, x_ast, x_bast, x_zast, x_aast, x_alen, x_obj, x_ret, x_retz, x_vret, x_max, x_min, x_copy, x_i2l, qg_none, qg_inl, qg_inr, qg_ite, xr1, xr0, xrE, xri, xl0, xl1, xl2, xl3, xl4, xl5, xl6, xl7, xl8, xl9, xl10, xs0, xs1, xs2, xs3, xs4, xs5, xs6, xs7, xs8, xs9, xs10, xi0, xi1, xi2, xi3, xi4, xi5, xi6, xi7, xi8, xi9, xi10, xc0, xc1, xc2, xc3, xc4, xc5, xc6, xc7, xv1, xv2, xv3, xv4, xv5, xv6, xv7, dT_le, dF_le, dT_lt, dF_lt, k77, k79, r2, hi, m_ofReader hK hRk, e4, g0', hc1, hc2, j1]
      · have sm := same (fun z => hr z.1)
        rw [if_neg (fun z => hr (hzr.mp z))] at hi
        obtain ⟨m', j1, j2, j3, j4⟩ := ih (k + 1) mk (by omega) (by omega) (by rw [sm]; exact hQk) hfk (by rw [sm]; exact hck) (by rw [sm]; exact hd1) (by rw [sm]; omega)
        refine ⟨m', ?_, j2, j3, j4⟩
        rw [ev_X12_ticks_1]
        simp (disch := omega) [ev_X12_ticks_0, ev_X12_ticks_2, ev_X12_ticks_3, ev_X12_ticks_4, ev_X12_ticks_6, ev_X12_ticks_7, B_X12_ticks_0, B_X12_ticks_1, B_X12_ticks_2, B_X12_ticks_3, B_X12_ticks_4, B_X12_ticks_5, B_X12_ticks_6, B_X12_ticks_7, x_const, x_iadd, x_isub, x_imul, x_idiv, x_irem, x_ineg, x_dup, x_dup_x1, x_dup2, x_pop, x_goto, x_ifeq, x_ifne, x_iflt, x_ifge, x_ifgt, x_ifle, x_cmpeq, x_cmpne, x_cmplt, x_cmpge, x_cmpgt, x_cmple, x_null, x_nonnull, x_acmpeq, x_acmpne, x_get, x_put, x_putz, x_ald, x_ast, x_bast, x_zast, x_aast, x_alen, x_obj, x_ret, x_retz, x_vret, x_max, x_min, x_copy, x_i2l, qg_none, qg_inl, qg_inr, qg_ite, xr1, xr0, xrE, xri, xl0, xl1, xl2, xl3, xl4, xl5, xl6, xl7, xl8, xl9, xl10, xs0, xs1, xs2, xs3, xs4, xs5, xs6, xs7, xs8, xs9, xs10, xi0, xi1, xi2, xi3, xi4, xi5, xi6, xi7, xi8, xi9, xi10, xc0, xc1, xc2, xc3, xc4, xc5, xc6, xc7, xv1, xv2, xv3, xv4, xv5, xv6, xv7, dT_le, dF_le, dT_lt, dF_lt, k77, hi, j1]
  obtain ⟨k77, k78, k79, k80, k81, k82, k83, k84, k85, k86, k87, k88, k89, k90⟩ := id hK
  obtain ⟨r1, r2, r3, r4, r6, r7, r8, r12, r13, r15, r23, r25, r26⟩ := id hR
  obtain ⟨g0, g1, gC, gI, gB, gJ, gR, gD, gE⟩ := id hQ
  have hgs0 : zgs ((zBreak A).1, A.2.1, zBk A 0, A.2.2.2) = zgs A := by
    unfold zgs
    simp only [ha0]
    simp
  have hz1 : zbs ((zBreak A).1, A.2.1, zBk A 0, A.2.2.2) = zbs A := by rw [zBk_0]; rfl
  have hz2 : zds ((zBreak A).1, A.2.1, zBk A 0, A.2.2.2) = zds A := by rw [zBk_0]; rfl
  have hz3 : ∀ r, zd1 ((zBreak A).1, A.2.1, zBk A 0, A.2.2.2) r = zd1 A r := fun r => by rw [zBk_0]; rfl
  obtain ⟨m', j1, j2, j3, j4⟩ := loop1 6 0 (qa_up m 79 0 (A.1 0 + 1)) (by decide) (by decide) (by
    rw [zBk_0]
    refine ⟨by rw [qa_up_hit]; simp [zBreak], ?_, fun i i1 i2 => ?_, fun b b1 b2 => ?_, fun b b1 b2 b3 => ?_, fun r r1 r2 => ?_, fun r j r1 r2 r3 j1 j2 => ?_, fun r j r1 r2 r3 r9 j1 j2 => ?_, fun b p b1 b2 b3 p1 p2 => ?_⟩
    · rw [qa_up_no _ (by omega)]; exact g1
    · rw [qa_up_no _ (by omega), ha0, if_neg (by omega)]; exact gC i i1 i2
    · rw [qa_up_no _ (by omega)]; exact gI b b1 b2
    · rw [qa_up_no _ (by omega), qa_up_no _ (by omega), qa_up_no _ (by omega), qa_up_no _ (by omega), qa_up_no _ (by omega), qa_up_no _ (by omega)]; exact gB b b1 b2 b3
    · rw [qa_up_no _ (by omega)]; exact gJ r r1 r2
    · rw [qa_up_no _ (by omega)]; exact gR r j r1 r2 r3 j1 j2
    · rw [qa_up_no _ (by omega)]; exact gD r j r1 r2 r3 r9 j1 j2
    · rw [qa_up_no _ (by omega), qa_up_no _ (by omega)]; exact gE b p b1 b2 b3 p1 p2) (by
    refine ⟨fun c c1 c2 c3 => ?_, fun i i1 i2 i3 => ?_⟩
    · funext i
      rw [qa_up_no _ (by omega)]
    · rw [qa_up_no _ (by omega)]) (by
    refine ⟨?_, ?_, ?_, fun r q1 q2 => ?_⟩
    · rw [qa_up_no _ (by omega), hgs0]
    · rw [qa_up_no _ (by omega), hz1]
    · rw [qa_up_no _ (by omega), hz2]
    · rw [qa_up_no _ (by omega), hz3]) (by omega) (by omega)
  refine ⟨m', ?_, j2, j3, j4⟩
  unfold f_X12_ticks
  refine qa_fn_eq ?_ (by simp)
  simp (disch := omega) [ev_X12_ticks_0, ev_X12_ticks_2, ev_X12_ticks_3, ev_X12_ticks_4, ev_X12_ticks_6, ev_X12_ticks_7, B_X12_ticks_0, B_X12_ticks_1, B_X12_ticks_2, B_X12_ticks_3, B_X12_ticks_4, B_X12_ticks_5, B_X12_ticks_6, B_X12_ticks_7, x_const, x_iadd, x_isub, x_imul, x_idiv, x_irem, x_ineg, x_dup, x_dup_x1, x_dup2, x_pop, x_goto, x_ifeq, x_ifne, x_iflt, x_ifge, x_ifgt, x_ifle, x_cmpeq, x_cmpne, x_cmplt, x_cmpge, x_cmpgt, x_cmple, x_null, x_nonnull, x_acmpeq, x_acmpne, x_get, x_put, x_putz, x_ald, x_ast, x_bast, x_zast, x_aast, x_alen, x_obj, x_ret, x_retz, x_vret, x_max, x_min, x_copy, x_i2l, qg_none, qg_inl, qg_inr, qg_ite, xr1, xr0, xrE, xri, xl0, xl1, xl2, xl3, xl4, xl5, xl6, xl7, xl8, xl9, xl10, xs0, xs1, xs2, xs3, xs4, xs5, xs6, xs7, xs8, xs9, xs10, xi0, xi1, xi2, xi3, xi4, xi5, xi6, xi7, xi8, xi9, xi10, xc0, xc1, xc2, xc3, xc4, xc5, xc6, xc7, xv1, xv2, xv3, xv4, xv5, xv6, xv7, dT_le, dF_le, dT_lt, dF_lt, dT_eq, dF_eq, qa_up_hit, qa_up_no, k77, k79, r2, g0, j1]
