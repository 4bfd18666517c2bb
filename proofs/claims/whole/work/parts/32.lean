theorem zCut_gs {M : Int} (st : Int → Int) (b : Int) : ∀ (n : Nat) (A : zA), zW M A → zBl A b → zgs (zCut st b n A) - zgs A = (zCut st b n A).2.1 b 7 - A.2.1 b 7 := by
  intro n
  induction n with
  | zero => intro A _ _; simp [zCut]
  | succ n ih =>
    intro A hW hb
    have hz := zcause_le A st b
    simp only [zCut]
    split
    · simp
    · rename_i hc
      have h1 := zW_cut1 (c := zCause A st b) hW hb (by omega) (hz.2.2 hc)
      have h2 := zK0_cut1 (c := zCause A st b) hW hb (by omega) (hz.2.2 hc)
      have h3 := ih _ h1 (h2.bl.mpr hb)
      have hg : zgs (zCut1 A b (zCause A st b)) = zgs A + 1 := by
        unfold zgs
        simp only [zCut1_g]
        have : zCause A st b = 0 ∨ zCause A st b = 1 ∨ zCause A st b = 2 ∨ zCause A st b = 3 := by omega
        rcases this with e | e | e | e <;> rw [e] <;> simp <;> omega
      have h7 : (zCut1 A b (zCause A st b)).2.1 b 7 = A.2.1 b 7 + 1 := by
        rw [zCut1_B]; simp
      omega
theorem zCutB_gs {M : Int} (st : Int → Int) {b : Int} {A : zA} (hW : zW M A) (hb : zBl A b) : (zCutB st b A).2.1 b 7 - A.2.1 b 7 = zgs (zCutB st b A) - zgs A := (zCut_gs st b _ A hW hb).symm
theorem c_breakPromiseAt {m : Int → Int → Int} {kd : Int → Nat × Int} {w : Nat × Nat × Nat} {R t : Int} (h1 : kd R = (10, 0)) (hb : 0 ≤ m R 6 ∧ m R 6 < 10000000) : f_X6_breakPromiseAt [(1, R), (0, t)] (m, kd, w) = some (.inl none, (if m R 0 ≠ 0 ∧ m R 4 ≠ -1 ∧ m R 4 < t then qa_up (qa_up m R 4 (-1)) R 6 (m R 6 + 1) else m, kd, w)) := by
  have hp := c_hasPromise (m := m) (w := w) h1
  unfold f_X6_breakPromiseAt
  refine qa_fn_eq ?_ (by simp)

  by_cases c1 : m R 0 = 0
  · simp (disch := omega) [ev_X6_breakPromiseAt_0, ev_X6_breakPromiseAt_1, B_X6_breakPromiseAt_0, B_X6_breakPromiseAt_1, x_const, x_iadd, x_isub, x_imul, x_idiv, x_irem, x_ineg, x_dup, x_dup_x1, x_dup2, x_pop, x_goto, x_ifeq, x_ifne, x_iflt, x_ifge, x_ifgt, x_ifle, x_cmpeq, x_cmpne, x_cmplt, x_cmpge, x_cmpgt, x_cmple, x_null, x_nonnull, x_acmpeq, x_acmpne, x_get, x_put, x_putz, x_ald, x_ast, x_bast, x_zast, x_aast, x_alen, x_obj, x_ret, x_retz, x_vret, x_max, x_min, x_copy, x_i2l, qg_none, qg_inl, qg_inr, qg_ite, xr1, xr0, xrE, xri, xl0, xl1, xl2, xl3, xl4, xl5, xl6, xl7, xl8, xl9, xl10, xs0, xs1, xs2, xs3, xs4, xs5, xs6, xs7, xs8, xs9, xs10, xi0, xi1, xi2, xi3, xi4, xi5, xi6, xi7, xi8, xi9, xi10, xc0, xc1, xc2, xc3, xc4, xc5, xc6, xc7, xv1, xv2, xv3, xv4, xv5, xv6, xv7, dT_le, dF_le, dT_lt, dF_lt, h1, hp, c1]
  · by_cases c2 : m R 4 = -1
    · simp (disch := omega) [ev_X6_breakPromiseAt_0, ev_X6_breakPromiseAt_1, B_X6_breakPromiseAt_0, B_X6_breakPromiseAt_1, x_const, x_iadd, x_isub, x_imul, x_idiv, x_irem, x_ineg, x_dup, x_dup_x1, x_dup2, x_pop, x_goto, x_ifeq, x_ifne, x_iflt, x_ifge, x_ifgt, x_ifle, x_cmpeq, x_cmpne, x_cmplt, x_cmpge, x_cmpgt, x_cmple, x_null, x_nonnull, x_acmpeq, x_acmpne, x_get, x_put, x_putz, x_ald, x_ast, x_bast, x_zast, x_aast, x_alen, x_obj, x_ret, x_retz, x_vret, x_max, x_min, x_copy, x_i2l, qg_none, qg_inl, qg_inr, qg_ite, xr1, xr0, xrE, xri, xl0, xl1, xl2, xl3, xl4, xl5, xl6, xl7, xl8, xl9, xl10, xs0, xs1, xs2, xs3, xs4, xs5, xs6, xs7, xs8, xs9, xs10, xi0, xi1, xi2, xi3, xi4, xi5, xi6, xi7, xi8, xi9, xi10, xc0, xc1, xc2, xc3, xc4, xc5, xc6, xc7, xv1, xv2, xv3, xv4, xv5, xv6, xv7, dT_le, dF_le, dT_lt, dF_lt, h1, hp, c1, c2]
    · by_cases c3 : m R 4 < t
      · simp (disch := omega) [ev_X6_breakPromiseAt_0, ev_X6_breakPromiseAt_1, B_X6_breakPromiseAt_0, B_X6_breakPromiseAt_1, x_const, x_iadd, x_isub, x_imul, x_idiv, x_irem, x_ineg, x_dup, x_dup_x1, x_dup2, x_pop, x_goto, x_ifeq, x_ifne, x_iflt, x_ifge, x_ifgt, x_ifle, x_cmpeq, x_cmpne, x_cmplt, x_cmpge, x_cmpgt, x_cmple, x_null, x_nonnull, x_acmpeq, x_acmpne, x_get, x_put, x_putz, x_ald, x_ast, x_bast, x_zast, x_aast, x_alen, x_obj, x_ret, x_retz, x_vret, x_max, x_min, x_copy, x_i2l, qg_none, qg_inl, qg_inr, qg_ite, xr1, xr0, xrE, xri, xl0, xl1, xl2, xl3, xl4, xl5, xl6, xl7, xl8, xl9, xl10, xs0, xs1, xs2, xs3, xs4, xs5, xs6, xs7, xs8, xs9, xs10, xi0, xi1, xi2, xi3, xi4, xi5, xi6, xi7, xi8, xi9, xi10, xc0, xc1, xc2, xc3, xc4, xc5, xc6, xc7, xv1, xv2, xv3, xv4, xv5, xv6, xv7, dT_le, dF_le, dT_lt, dF_lt, dT_eq, dF_eq, qa_up_hit, qa_up_no, h1, hp, c1, c2, c3]
      · simp (disch := omega) [ev_X6_breakPromiseAt_0, ev_X6_breakPromiseAt_1, B_X6_breakPromiseAt_0, B_X6_breakPromiseAt_1, x_const, x_iadd, x_isub, x_imul, x_idiv, x_irem, x_ineg, x_dup, x_dup_x1, x_dup2, x_pop, x_goto, x_ifeq, x_ifne, x_iflt, x_ifge, x_ifgt, x_ifle, x_cmpeq, x_cmpne, x_cmplt, x_cmpge, x_cmpgt, x_cmple, x_null, x_nonnull, x_acmpeq, x_acmpne, x_get, x_put, x_putz, x_ald, x_ast, x_bast, x_zast, x_aast, x_alen, x_obj, x_ret, x_retz, x_vret, x_max, x_min, x_copy, x_i2l, qg_none, qg_inl, qg_inr, qg_ite, xr1, xr0, xrE, xri, xl0, xl1, xl2, xl3, xl4, xl5, xl6, xl7, xl8, xl9, xl10, xs0, xs1, xs2, xs3, xs4, xs5, xs6, xs7, xs8, xs9, xs10, xi0, xi1, xi2, xi3, xi4, xi5, xi6, xi7, xi8, xi9, xi10, xc0, xc1, xc2, xc3, xc4, xc5, xc6, xc7, xv1, xv2, xv3, xv4, xv5, xv6, xv7, dT_le, dF_le, dT_lt, dF_lt, h1, hp, c1, c2, c3]
def zBk (A : zA) (k : Int) : Int → Int → Int := fun r j => if r < k then (zBreak A).2.2.1 r j else A.2.2.1 r j
theorem zBreak_low {A : zA} {r j : Int} (h4 : j ≠ 4) (h6 : j ≠ 6) : (zBreak A).2.2.1 r j = A.2.2.1 r j := by
  simp only [zBreak, if_neg h4, if_neg h6, ite_self]
theorem c_tick {m : Int → Int → Int} {kd : Int → Nat × Int} {w : Nat × Nat × Nat} {A : zA} {S : Int} (hK : KS kd S) (hC : RC A m kd S) {M : Int} (hW : zW M A) (hM : M < 500000) (ht : A.1 0 < 1000000) {st : Int → Int} {y z : Int} (hy : CR st m kd y z) (hs : zS st) (hyf : (y < S ∨ S + 30 ≤ y) ∧ (z < S ∨ S + 30 ≤ z)) : ∃ m', f_X9_tick [(1, S), (1, y)] (m, kd, w) = some (.inl (some (0, zgs (zTick st A) - zgs A)), (m', kd, w)) ∧ RC (zTick st A) m' kd S ∧ zfr m m' S := by
  -- the branches
  have loop2 : ∀ (n : Nat) (k : Nat) (mk : Int → Int → Int) (l6 : qV), k + n = 4 → RC (zCuts st k (zBreak A)) mk kd S → zfr m mk S → ∃ m', qa_ev P_X9_tick 3 [(1, S), (1, y), (0, zgs (zCuts st k (zBreak A)) - zgs A), (1, S + 2), (0, 4), (0, (k : Int)), l6] [] (mk, kd, w) = some (.inl (some (0, zgs (zTick st A) - zgs A)), (m', kd, w)) ∧ RC (zTick st A) m' kd S ∧ zfr m m' S := by
    intro n
    induction n with
    | zero =>
      intro k mk l6 h2 hCk hfk
      obtain rfl : k = 4 := by omega
      refine ⟨mk, ?_, hCk, hfk⟩
      rw [ev_X9_tick_3]
      simp (disch := omega) [ev_X9_tick_0, ev_X9_tick_1, ev_X9_tick_2, ev_X9_tick_4, ev_X9_tick_5, ev_X9_tick_6, B_X9_tick_0, B_X9_tick_1, B_X9_tick_2, B_X9_tick_3, B_X9_tick_4, B_X9_tick_5, B_X9_tick_6, x_const, x_iadd, x_isub, x_imul, x_idiv, x_irem, x_ineg, x_dup, x_dup_x1, x_dup2, x_pop, x_goto, x_ifeq, x_ifne, x_iflt, x_ifge, x_ifgt, x_ifle, x_cmpeq, x_cmpne, x_cmplt, x_cmpge, x_cmpgt, x_cmple, x_null, x_nonnull, x_acmpeq, x_acmpne, x_get, x_put, x_putz, x_ald, x_ast, x_bast, x_zast, x_aast, x_alen, x_obj, x_ret, x_retz, x_vret, x_max, x_min, x_copy, x_i2l, qg_none, qg_inl, qg_inr, qg_ite, xr1, xr0, xrE, xri, xl0, xl1, xl2, xl3, xl4, xl5, xl6, xl7, xl8, xl9, xl10, xs0, xs1, xs2, xs3, xs4, xs5, xs6, xs7, xs8, xs9, xs10, xi0, xi1, xi2, xi3, xi4, xi5, xi6, xi7, xi8, xi9, xi10, xc0, xc1, xc2, xc3, xc4, xc5, xc6, xc7, xv1, xv2, xv3, xv4, xv5, xv6, xv7, dT_le, dF_le, dT_lt, dF_lt, zTick]
    | succ n ih =>
      intro k mk l6 h2 hCk hfk
      have hWk := (zW_cuts st (zW_break hW ht).1 k).1
      have hpos := zlive_pos hWk
      have hgs : 0 ≤ zgs (zCuts st k (zBreak A)) ∧ zgs (zCuts st k (zBreak A)) ≤ 500000 := by
        have a1 := hWk.2.2.1
        have a2 := hWk.2.1 2 (by decide) (by decide)
        have a3 := hWk.2.1 3 (by decide) (by decide)
        have a4 := hWk.2.1 4 (by decide) (by decide)
        have a5 := hWk.2.1 5 (by decide) (by decide)
        unfold zgs at a1 ⊢
        omega
      have hgA : 0 ≤ zgs A ∧ zgs A ≤ 500000 := by
        have a0 := zlive_pos hW
        have a1 := hW.2.2.1
        have a2 := hW.2.1 2 (by decide) (by decide)
        have a3 := hW.2.1 3 (by decide) (by decide)
        have a4 := hW.2.1 4 (by decide) (by decide)
        have a5 := hW.2.1 5 (by decide) (by decide)
        unfold zgs at a1 ⊢
        omega
      obtain ⟨⟨f2, f3, f4, fV, fW, f0, f8, f9, f7⟩, e0, e1, eC, eB, eR, eD, eL, eE⟩ := id hCk
      obtain ⟨kN, kS, kC, kV, kW, kB, kE, kR, kD, kL⟩ := id hK
      by_cases hb : zBl (zCuts st k (zBreak A)) k
      · have hy' : CR st mk kd y z := by
          obtain ⟨y1, y2, y3, y4⟩ := id hy
          refine ⟨y1, by rw [hfk _ hyf.1]; exact y2, y3, fun i i1 i2 => by rw [hfk _ hyf.2]; exact y4 i i1 i2⟩
        obtain ⟨m1, i1, i2, i3⟩ := c_cutBehind (w := w) hK hCk hWk hM hy' hs hyf hb
        rw [zCutB_gs st hWk hb] at i1
        have e1 : zCuts st (k + 1) (zBreak A) = zCutB st k (zCuts st k (zBreak A)) := by simp only [zCuts, if_pos hb]
        have hW1 := (zW_cutB st hWk hb).1
        have hg1 : 0 ≤ zgs (zCutB st k (zCuts st k (zBreak A))) ∧ zgs (zCutB st k (zCuts st k (zBreak A))) ≤ 500000 := by
          have a0 := zlive_pos hW1
          have a1 := hW1.2.2.1
          have a2 := hW1.2.1 2 (by decide) (by decide)
          have a3 := hW1.2.1 3 (by decide) (by decide)
          have a4 := hW1.2.1 4 (by decide) (by decide)
          have a5 := hW1.2.1 5 (by decide) (by decide)
          unfold zgs at a1 ⊢
          omega
        obtain ⟨m2, j1, j2, j3⟩ := ih (k + 1) m1 (1, S + 4 + 2 * k) (by omega) (by rw [e1]; exact i2) (hfk.trans i3)
        refine ⟨m2, ?_, j2, j3⟩
        rw [e1] at j1
        push_cast at j1
        rw [ev_X9_tick_3]
        have hb3 := hb.2.2
        simp (disch := omega) [ev_X9_tick_0, ev_X9_tick_1, ev_X9_tick_2, ev_X9_tick_4, ev_X9_tick_5, ev_X9_tick_6, B_X9_tick_0, B_X9_tick_1, B_X9_tick_2, B_X9_tick_3, B_X9_tick_4, B_X9_tick_5, B_X9_tick_6, x_const, x_iadd, x_isub, x_imul, x_idiv, x_irem, x_ineg, x_dup, x_dup_x1, x_dup2, x_pop, x_goto, x_ifeq, x_ifne, x_iflt, x_ifge, x_ifgt, x_ifle, x_cmpeq, x_cmpne, x_cmplt, x_cmpge, x_cmpgt, x_cmple, x_null, x_nonnull, x_acmpeq, x_acmpne, x_get, x_put, x_putz, x_ald, x_ast, x_bast, x_zast, x_aast, x_alen, x_obj, x_ret, x_retz, x_vret, x_max, x_min, x_copy, x_i2l, qg_none, qg_inl, qg_inr, qg_ite, xr1, xr0, xrE, xri, xl0, xl1, xl2, xl3, xl4, xl5, xl6, xl7, xl8, xl9, xl10, xs0, xs1, xs2, xs3, xs4, xs5, xs6, xs7, xs8, xs9, xs10, xi0, xi1, xi2, xi3, xi4, xi5, xi6, xi7, xi8, xi9, xi10, xc0, xc1, xc2, xc3, xc4, xc5, xc6, xc7, xv1, xv2, xv3, xv4, xv5, xv6, xv7, dT_le, dF_le, dT_lt, dF_lt, f2, f3, f4, fV, fW, f0, f8, f9, f7, e0, e1, eC, eB, eR, kS, kC, kV, kW, kB, kE, kR, kD, kL, i1, hb3]
        rw [show zgs (zCuts st k (zBreak A)) - zgs A + (zgs (zCutB st k (zCuts st k (zBreak A))) - zgs (zCuts st k (zBreak A))) = zgs (zCutB st k (zCuts st k (zBreak A))) - zgs A by omega]
        exact j1
      · have e1 : zCuts st (k + 1) (zBreak A) = zCuts st k (zBreak A) := by simp only [zCuts, if_neg hb]
        obtain ⟨m2, j1, j2, j3⟩ := ih (k + 1) mk (1, S + 4 + 2 * k) (by omega) (by rw [e1]; exact hCk) hfk
        refine ⟨m2, ?_, j2, j3⟩
        rw [e1] at j1
        push_cast at j1
        have hb3 : (zCuts st k (zBreak A)).2.1 k 1 = 0 := by
          have := hWk.bt (b := k) (by omega) (by omega)
          rcases this with h | h
          · exact h
          · exact absurd ⟨by omega, by omega, h⟩ hb
        rw [ev_X9_tick_3]
        simp (disch := omega) [ev_X9_tick_0, ev_X9_tick_1, ev_X9_tick_2, ev_X9_tick_4, ev_X9_tick_5, ev_X9_tick_6, B_X9_tick_0, B_X9_tick_1, B_X9_tick_2, B_X9_tick_3, B_X9_tick_4, B_X9_tick_5, B_X9_tick_6, x_const, x_iadd, x_isub, x_imul, x_idiv, x_irem, x_ineg, x_dup, x_dup_x1, x_dup2, x_pop, x_goto, x_ifeq, x_ifne, x_iflt, x_ifge, x_ifgt, x_ifle, x_cmpeq, x_cmpne, x_cmplt, x_cmpge, x_cmpgt, x_cmple, x_null, x_nonnull, x_acmpeq, x_acmpne, x_get, x_put, x_putz, x_ald, x_ast, x_bast, x_zast, x_aast, x_alen, x_obj, x_ret, x_retz, x_vret, x_max, x_min, x_copy, x_i2l, qg_none, qg_inl, qg_inr, qg_ite, xr1, xr0, xrE, xri, xl0, xl1, xl2, xl3, xl4, xl5, xl6, xl7, xl8, xl9, xl10, xs0, xs1, xs2, xs3, xs4, xs5, xs6, xs7, xs8, xs9, xs10, xi0, xi1, xi2, xi3, xi4, xi5, xi6, xi7, xi8, xi9, xi10, xc0, xc1, xc2, xc3, xc4, xc5, xc6, xc7, xv1, xv2, xv3, xv4, xv5, xv6, xv7, dT_le, dF_le, dT_lt, dF_lt, f2, f3, f4, fV, fW, f0, f8, f9, f7, e0, e1, eC, eB, eR, kS, kC, kV, kW, kB, kE, kR, kD, kL, hb3, j1]
  sorry
