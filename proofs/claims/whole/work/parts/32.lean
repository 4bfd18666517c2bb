theorem zW.gs {M : Int} {A : zA} (hW : zW M A) : 0 ≤ zgs A ∧ zgs A ≤ 500000 := by
  have a0 := zlive_pos hW
  have a1 := hW.2.2.1
  have a2 := hW.2.1 2 (by decide) (by decide)
  have a3 := hW.2.1 3 (by decide) (by decide)
  have a4 := hW.2.1 4 (by decide) (by decide)
  have a5 := hW.2.1 5 (by decide) (by decide)
  have a6 := hW.1.2.1
  unfold zgs at a1 ⊢
  omega
theorem zCut_gs {M : Int} (st : Int → Int) (b : Int) : ∀ (n : Nat) (A : zA), zW M A → zBl A b → zgs (zCut st b n A) - zgs A = (zCut st b n A).2.1 b 7 - A.2.1 b 7 := by
  intro n
  induction n with
  | zero => intro A _ _; simp [zCut]
  | succ n ih =>
    intro A hW hb
    have hz := zcause_le A st b
    simp only [zCut]
    split
    · simp
    · rename_i hc
      have h1 := zW_cut1 (c := zCause A st b) hW hb (by omega) (hz.2.2 hc)
      have h2 := zK0_cut1 (c := zCause A st b) hW hb (by omega) (hz.2.2 hc)
      have h3 := ih _ h1 (h2.bl.mpr hb)
      have hg : zgs (zCut1 A b (zCause A st b)) = zgs A + 1 := by
        unfold zgs
        simp only [zCut1_g]
        have : zCause A st b = 0 ∨ zCause A st b = 1 ∨ zCause A st b = 2 ∨ zCause A st b = 3 := by omega
        rcases this with e | e | e | e <;> rw [e] <;> simp <;> omega
      have h7 : (zCut1 A b (zCause A st b)).2.1 b 7 = A.2.1 b 7 + 1 := by
        rw [zCut1_B]; simp
      omega
theorem zCutB_gs {M : Int} (st : Int → Int) {b : Int} {A : zA} (hW : zW M A) (hb : zBl A b) : (zCutB st b A).2.1 b 7 - A.2.1 b 7 = zgs (zCutB st b A) - zgs A := (zCut_gs st b _ A hW hb).symm
theorem c_breakPromiseAt {m : Int → Int → Int} {kd : Int → Nat × Int} {w : Nat × Nat × Nat} {R t : Int} (h1 : kd R = (10, 0)) (hb : m R 0 ≠ 0 → 0 ≤ m R 6 ∧ m R 6 < 10000000) : f_X6_breakPromiseAt [(1, R), (0, t)] (m, kd, w) = some (.inl none, (if m R 0 ≠ 0 ∧ m R 4 ≠ -1 ∧ m R 4 < t then qa_up (qa_up m R 4 (-1)) R 6 (m R 6 + 1) else m, kd, w)) := by
  have hp := c_hasPromise (m := m) (w := w) h1
  unfold f_X6_breakPromiseAt
  refine qa_fn_eq ?_ (by simp)
  by_cases c1 : m R 0 = 0
  · simp (disch := omega) [ev_X6_breakPromiseAt_0, ev_X6_breakPromiseAt_1, B_X6_breakPromiseAt_0, B_X6_breakPromiseAt_1, x_const, x_iadd, x_isub, x_imul, x_idiv, x_irem, x_ineg, x_dup, x_dup_x1, x_dup2, x_pop, x_goto, x_ifeq, x_ifne, x_iflt, x_ifge, x_ifgt, x_ifle, x_cmpeq, x_cmpne, x_cmplt, x_cmpge, x_cmpgt, x_cmple, x_null, x_nonnull, x_acmpeq, x_acmpne, x_get, x_put, x_putz, x_ald, x_ast, x_bast, x_zast, x_aast, x_alen, x_obj, x_ret, x_retz, x_vret, x_max, x_min, x_copy, x_i2l, qg_none, qg_inl, qg_inr, qg_ite, xr1, xr0, xrE, xri, xl0, xl1, xl2, xl3, xl4, xl5, xl6, xl7, xl8, xl9, xl10, xs0, xs1, xs2, xs3, xs4, xs5, xs6, xs7, xs8, xs9, xs10, xi0, xi1, xi2, xi3, xi4, xi5, xi6, xi7, xi8, xi9, xi10, xc0, xc1, xc2, xc3, xc4, xc5, xc6, xc7, xv1, xv2, xv3, xv4, xv5, xv6, xv7, dT_le, dF_le, dT_lt, dF_lt, h1, hp, c1]
  · by_cases c2 : m R 4 = -1
    · simp (disch := omega) [ev_X6_breakPromiseAt_0, ev_X6_breakPromiseAt_1, B_X6_breakPromiseAt_0, B_X6_breakPromiseAt_1, x_const, x_iadd, x_isub, x_imul, x_idiv, x_irem, x_ineg, x_dup, x_dup_x1, x_dup2, x_pop, x_goto, x_ifeq, x_ifne, x_iflt, x_ifge, x_ifgt, x_ifle, x_cmpeq, x_cmpne, x_cmplt, x_cmpge, x_cmpgt, x_cmple, x_null, x_nonnull, x_acmpeq, x_acmpne, x_get, x_put, x_putz, x_ald, x_ast, x_bast, x_zast, x_aast, x_alen, x_obj, x_ret, x_retz, x_vret, x_max, x_min, x_copy, x_i2l, qg_none, qg_inl, qg_inr, qg_ite, xr1, xr0, xrE, xri, xl0, xl1, xl2, xl3, xl4, xl5, xl6, xl7, xl8, xl9, xl10, xs0, xs1, xs2, xs3, xs4, xs5, xs6, xs7, xs8, xs9, xs10, xi0, xi1, xi2, xi3, xi4, xi5, xi6, xi7, xi8, xi9, xi10, xc0, xc1, xc2, xc3, xc4, xc5, xc6, xc7, xv1, xv2, xv3, xv4, xv5, xv6, xv7, dT_le, dF_le, dT_lt, dF_lt, h1, hp, c1, c2]
    · have hb := hb c1
      by_cases c3 : m R 4 < t
      · simp (disch := omega) [ev_X6_breakPromiseAt_0, ev_X6_breakPromiseAt_1, B_X6_breakPromiseAt_0, B_X6_breakPromiseAt_1, x_const, x_iadd, x_isub, x_imul, x_idiv, x_irem, x_ineg, x_dup, x_dup_x1, x_dup2, x_pop, x_goto, x_ifeq, x_ifne, x_iflt, x_ifge, x_ifgt, x_ifle, x_cmpeq, x_cmpne, x_cmplt, x_cmpge, x_cmpgt, x_cmple, x_null, x_nonnull, x_acmpeq, x_acmpne, x_get, x_put, x_putz, x_ald, x_ast, x_bast, x_zast, x_aast, x_alen, x_obj, x_ret, x_retz, x_vret, x_max, x_min, x_copy, x_i2l, qg_none, qg_inl, qg_inr, qg_ite, xr1, xr0, xrE, xri, xl0, xl1, xl2, xl3, xl4, xl5, xl6, xl7, xl8, xl9, xl10, xs0, xs1, xs2, xs3, xs4, xs5, xs6, xs7, xs8, xs9, xs10, xi0, xi1, xi2, xi3, xi4, xi5, xi6, xi7, xi8, xi9, xi10, xc0, xc1, xc2, xc3, xc4, xc5, xc6, xc7, xv1, xv2, xv3, xv4, xv5, xv6, xv7, dT_le, dF_le, dT_lt, dF_lt, dT_eq, dF_eq, qa_up_hit, qa_up_no, h1, hp, c1, c2, c3]
      · simp (disch := omega) [ev_X6_breakPromiseAt_0, ev_X6_breakPromiseAt_1, B_X6_breakPromiseAt_0, B_X6_breakPromiseAt_1, x_const, x_iadd, x_isub, x_imul, x_idiv, x_irem, x_ineg, x_dup, x_dup_x1, x_dup2, x_pop, x_goto, x_ifeq, x_ifne, x_iflt, x_ifge, x_ifgt, x_ifle, x_cmpeq, x_cmpne, x_cmplt, x_cmpge, x_cmpgt, x_cmple, x_null, x_nonnull, x_acmpeq, x_acmpne, x_get, x_put, x_putz, x_ald, x_ast, x_bast, x_zast, x_aast, x_alen, x_obj, x_ret, x_retz, x_vret, x_max, x_min, x_copy, x_i2l, qg_none, qg_inl, qg_inr, qg_ite, xr1, xr0, xrE, xri, xl0, xl1, xl2, xl3, xl4, xl5, xl6, xl7, xl8, xl9, xl10, xs0, xs1, xs2, xs3, xs4, xs5, xs6, xs7, xs8, xs9, xs10, xi0, xi1, xi2, xi3, xi4, xi5, xi6, xi7, xi8, xi9, xi10, xc0, xc1, xc2, xc3, xc4, xc5, xc6, xc7, xv1, xv2, xv3, xv4, xv5, xv6, xv7, dT_le, dF_le, dT_lt, dF_lt, h1, hp, c1, c2, c3]
def zBk (A : zA) (k : Int) : Int → Int → Int := fun r j => if r < k then (zBreak A).2.2.1 r j else A.2.2.1 r j
theorem zBreak_low {A : zA} {r j : Int} (h4 : j ≠ 4) (h6 : j ≠ 6) : (zBreak A).2.2.1 r j = A.2.2.1 r j := by
  simp only [zBreak, if_neg h4, if_neg h6, ite_self]
theorem c_tick {m : Int → Int → Int} {kd : Int → Nat × Int} {w : Nat × Nat × Nat} {A : zA} {S : Int} (hK : KS kd S) (hC : RC A m kd S) {M : Int} (hW : zW M A) (hM : M < 500000) (ht : A.1 0 < 1000000) {st : Int → Int} {y z : Int} (hy : CR st m kd y z) (hs : zS st) (hyf : (y < S ∨ S + 30 ≤ y) ∧ (z < S ∨ S + 30 ≤ z)) : ∃ m', f_X9_tick [(1, S), (1, y)] (m, kd, w) = some (.inl (some (0, zgs (zTick st A) - zgs A)), (m', kd, w)) ∧ RC (zTick st A) m' kd S ∧ zfr m m' S := by
  have loop2 : ∀ (n : Nat) (k : Nat) (mk : Int → Int → Int) (l6 : qV), k + n = 4 → RC (zCuts st k (zBreak A)) mk kd S → zfr m mk S → ∃ m', qa_ev P_X9_tick 3 [(1, S), (1, y), (0, zgs (zCuts st k (zBreak A)) - zgs A), (1, S + 2), (0, 4), (0, (k : Int)), l6] [] (mk, kd, w) = some (.inl (some (0, zgs (zTick st A) - zgs A)), (m', kd, w)) ∧ RC (zTick st A) m' kd S ∧ zfr m m' S := by
    intro n
    induction n with
    | zero =>
      intro k mk l6 h2 hCk hfk
      obtain rfl : k = 4 := by omega
      refine ⟨mk, ?_, hCk, hfk⟩
      rw [ev_X9_tick_3]
      simp (disch := omega) [ev_X9_tick_0, ev_X9_tick_1, ev_X9_tick_2, ev_X9_tick_4, ev_X9_tick_5, ev_X9_tick_6, B_X9_tick_0, B_X9_tick_1, B_X9_tick_2, B_X9_tick_3, B_X9_tick_4, B_X9_tick_5, B_X9_tick_6, x_const, x_iadd, x_isub, x_imul, x_idiv, x_irem, x_ineg, x_dup, x_dup_x1, x_dup2, x_pop, x_goto, x_ifeq, x_ifne, x_iflt, x_ifge, x_ifgt, x_ifle, x_cmpeq, x_cmpne, x_cmplt, x_cmpge, x_cmpgt, x_cmple, x_null, x_nonnull, x_acmpeq, x_acmpne, x_get, x_put, x_putz, x_ald, x_ast, x_bast, x_zast, x_aast, x_alen, x_obj, x_ret, x_retz, x_vret, x_max, x_min, x_copy, x_i2l, qg_none, qg_inl, qg_inr, qg_ite, xr1, xr0, xrE, xri, xl0, xl1, xl2, xl3, xl4, xl5, xl6, xl7, xl8, xl9, xl10, xs0, xs1, xs2, xs3, xs4, xs5, xs6, xs7, xs8, xs9, xs10, xi0, xi1, xi2, xi3, xi4, xi5, xi6, xi7, xi8, xi9, xi10, xc0, xc1, xc2, xc3, xc4, xc5, xc6, xc7, xv1, xv2, xv3, xv4, xv5, xv6, xv7, dT_le, dF_le, dT_lt, dF_lt, zTick]
    | succ n ih =>
      intro k mk l6 h2 hCk hfk
      have hWk := (zW_cuts st (zW_break hW ht).1 k).1
      have hpos := zlive_pos hWk
      have hgs := hWk.gs
      have hgA := hW.gs
      obtain ⟨⟨f2, f3, f4, fV, fW, f0, f8, f9, f7⟩, e0, e1, eC, eB, eR, eD, eL, eE⟩ := id hCk
      obtain ⟨kN, kS, kC, kV, kW, kB, kE, kR, kD, kL⟩ := id hK
      by_cases hb : zBl (zCuts st k (zBreak A)) k
      · have hy' : CR st mk kd y z := by
          obtain ⟨y1, y2, y3, y4⟩ := id hy
          refine ⟨y1, by rw [hfk _ hyf.1]; exact y2, y3, fun i i1 i2 => by rw [hfk _ hyf.2]; exact y4 i i1 i2⟩
        obtain ⟨m1, i1, i2, i3⟩ := c_cutBehind (w := w) hK hCk hWk hM hy' hs hyf hb
        rw [zCutB_gs st hWk hb] at i1
        have e1 : zCuts st (k + 1) (zBreak A) = zCutB st k (zCuts st k (zBreak A)) := by simp only [zCuts, if_pos hb]
        have hW1 := (zW_cutB st hWk hb).1
        have hg1 := hW1.gs
        obtain ⟨m2, j1, j2, j3⟩ := ih (k + 1) m1 (1, S + 4 + 2 * k) (by omega) (by rw [e1]; exact i2) (hfk.trans i3)
        refine ⟨m2, ?_, j2, j3⟩
        rw [e1] at j1
        push_cast at j1
        rw [ev_X9_tick_3]
        have hb3 := hb.2.2
        simp (disch := omega) [ev_X9_tick_0, ev_X9_tick_1, ev_X9_tick_2, ev_X9_tick_4, ev_X9_tick_5, ev_X9_tick_6, B_X9_tick_0, B_X9_tick_1, B_X9_tick_2, B_X9_tick_3, B_X9_tick_4, B_X9_tick_5, B_X9_tick_6, x_const, x_iadd, x_isub, x_imul, x_idiv, x_irem, x_ineg, x_dup, x_dup_x1, x_dup2, x_pop, x_goto, x_ifeq, x_ifne, x_iflt, x_ifge, x_ifgt, x_ifle, x_cmpeq, x_cmpne, x_cmplt, x_cmpge, x_cmpgt, x_cmple, x_null, x_nonnull, x_acmpeq, x_acmpne, x_get, x_put, x_putz, x_ald, x_ast, x_bast, x_zast, x_aast, x_alen, x_obj, x_ret, x_retz, x_vret, x_max, x_min, x_copy, x_i2l, qg_none, qg_inl, qg_inr, qg_ite, xr1, xr0, xrE, xri, xl0, xl1, xl2, xl3, xl4, xl5, xl6, xl7, xl8, xl9, xl10, xs0, xs1, xs2, xs3, xs4, xs5, xs6, xs7, xs8, xs9, xs10, xi0, xi1, xi2, xi3, xi4, xi5, xi6, xi7, xi8, xi9, xi10, xc0, xc1, xc2, xc3, xc4, xc5, xc6, xc7, xv1, xv2, xv3, xv4, xv5, xv6, xv7, dT_le, dF_le, dT_lt, dF_lt, f2, f3, f4, fV, fW, f0, f8, f9, f7, e0, e1, eC, eB, eR, kS, kC, kV, kW, kB, kE, kR, kD, kL, i1, hb3]
        rw [show zgs (zCuts st k (zBreak A)) - zgs A + (zgs (zCutB st k (zCuts st k (zBreak A))) - zgs (zCuts st k (zBreak A))) = zgs (zCutB st k (zCuts st k (zBreak A))) - zgs A by omega]
        exact j1
      · have e1 : zCuts st (k + 1) (zBreak A) = zCuts st k (zBreak A) := by simp only [zCuts, if_neg hb]
        obtain ⟨m2, j1, j2, j3⟩ := ih (k + 1) mk (1, S + 4 + 2 * k) (by omega) (by rw [e1]; exact hCk) hfk
        refine ⟨m2, ?_, j2, j3⟩
        rw [e1] at j1
        push_cast at j1
        have hb3 : (zCuts st k (zBreak A)).2.1 k 1 = 0 := by
          have := hWk.bt (b := k) (by omega) (by omega)
          rcases this with h | h
          · exact h
          · exact absurd ⟨by omega, by omega, h⟩ hb
        rw [ev_X9_tick_3]
        simp (disch := omega) [ev_X9_tick_0, ev_X9_tick_1, ev_X9_tick_2, ev_X9_tick_4, ev_X9_tick_5, ev_X9_tick_6, B_X9_tick_0, B_X9_tick_1, B_X9_tick_2, B_X9_tick_3, B_X9_tick_4, B_X9_tick_5, B_X9_tick_6, x_const, x_iadd, x_isub, x_imul, x_idiv, x_irem, x_ineg, x_dup, x_dup_x1, x_dup2, x_pop, x_goto, x_ifeq, x_ifne, x_iflt, x_ifge, x_ifgt, x_ifle, x_cmpeq, x_cmpne, x_cmplt, x_cmpge, x_cmpgt, x_cmple, x_null, x_nonnull, x_acmpeq, x_acmpne, x_get, x_put, x_putz, x_ald, x_ast, x_bast, x_zast, x_aast, x_alen, x_obj, x_ret, x_retz, x_vret, x_max, x_min, x_copy, x_i2l, qg_none, qg_inl, qg_inr, qg_ite, xr1, xr0, xrE, xri, xl0, xl1, xl2, xl3, xl4, xl5, xl6, xl7, xl8, xl9, xl10, xs0, xs1, xs2, xs3, xs4, xs5, xs6, xs7, xs8, xs9, xs10, xi0, xi1, xi2, xi3, xi4, xi5, xi6, xi7, xi8, xi9, xi10, xc0, xc1, xc2, xc3, xc4, xc5, xc6, xc7, xv1, xv2, xv3, xv4, xv5, xv6, xv7, dT_le, dF_le, dT_lt, dF_lt, f2, f3, f4, fV, fW, f0, f8, f9, f7, e0, e1, eC, eB, eR, kS, kC, kV, kW, kB, kE, kR, kD, kL, hb3, j1]
  have ha0 : ∀ j, (zBreak A).1 j = if j = 0 then A.1 0 + 1 else A.1 j := fun j => rfl
  have loop1 : ∀ (n : Nat) (k : Int) (mk : Int → Int → Int) (l5 : qV), 0 ≤ k → k + n = 6 → RC ((zBreak A).1, A.2.1, zBk A k, A.2.2.2) mk kd S → zfr m mk S → ∃ m', qa_ev P_X9_tick 1 [(1, S), (1, y), (1, S + 3), (0, 6), (0, k), l5, (9, 0)] [] (mk, kd, w) = some (.inl (some (0, zgs (zTick st A) - zgs A)), (m', kd, w)) ∧ RC (zTick st A) m' kd S ∧ zfr m m' S := by
    intro n
    induction n with
    | zero =>
      intro k mk l5 h1 h2 hCk hfk
      obtain rfl : k = 6 := by omega
      obtain ⟨⟨f2, f3, f4, fV, fW, f0, f8, f9, f7⟩, e0, e1, eC, eB, eR, eD, eL, eE⟩ := id hCk
      obtain ⟨kN, kS, kC, kV, kW, kB, kE, kR, kD, kL⟩ := id hK
      have hC6 : RC (zBreak A) mk kd S := by
        refine ⟨⟨f2, f3, f4, fV, fW, f0, f8, f9, f7⟩, e0, e1, eC, eB, fun r j r1 r2 j1 j2 => ?_, fun r j r1 r2 rt j1 j2 => ?_, fun r j r1 r2 rt j1 j2 => ?_, eE⟩
        · rw [eR r j r1 r2 j1 j2]; exact if_pos r2
        · have e : zBk A 6 r 0 = (zBreak A).2.2.1 r 0 := if_pos r2
          rw [eD r j r1 r2 (e.trans rt) j1 j2]; exact if_pos r2
        · have e : zBk A 6 r 0 = (zBreak A).2.2.1 r 0 := if_pos r2
          rw [eL r j r1 r2 (e.trans rt) j1 j2]; exact if_pos r2
      obtain ⟨m', j1, j2, j3⟩ := loop2 4 0 mk (9, 0) (by omega) hC6 hfk
      refine ⟨m', ?_, j2, j3⟩
      have e : zgs (zCuts st 0 (zBreak A)) - zgs A = 0 := by
        have : zgs (zCuts st 0 (zBreak A)) = zgs A := by
          unfold zgs zCuts
          rw [ha0, ha0, ha0, ha0]
          simp
        omega
      rw [e] at j1
      rw [ev_X9_tick_1]
      simp (disch := omega) [ev_X9_tick_0, ev_X9_tick_2, ev_X9_tick_4, ev_X9_tick_5, ev_X9_tick_6, B_X9_tick_0, B_X9_tick_1, B_X9_tick_2, B_X9_tick_3, B_X9_tick_4, B_X9_tick_5, B_X9_tick_6, x_const, x_iadd, x_isub, x_imul, x_idiv, x_irem, x_ineg, x_dup, x_dup_x1, x_dup2, x_pop, x_goto, x_ifeq, x_ifne, x_iflt, x_ifge, x_ifgt, x_ifle, x_cmpeq, x_cmpne, x_cmplt, x_cmpge, x_cmpgt, x_cmple, x_null, x_nonnull, x_acmpeq, x_acmpne, x_get, x_put, x_putz, x_ald, x_ast, x_bast, x_zast, x_aast, x_alen, x_obj, x_ret, x_retz, x_vret, x_max, x_min, x_copy, x_i2l, qg_none, qg_inl, qg_inr, qg_ite, xr1, xr0, xrE, xri, xl0, xl1, xl2, xl3, xl4, xl5, xl6, xl7, xl8, xl9, xl10, xs0, xs1, xs2, xs3, xs4, xs5, xs6, xs7, xs8, xs9, xs10, xi0, xi1, xi2, xi3, xi4, xi5, xi6, xi7, xi8, xi9, xi10, xc0, xc1, xc2, xc3, xc4, xc5, xc6, xc7, xv1, xv2, xv3, xv4, xv5, xv6, xv7, dT_le, dF_le, dT_lt, dF_lt, f2, f3, f4, fV, fW, f0, f8, f9, f7, e0, e1, eC, eB, eR, kS, kC, kV, kW, kB, kE, kR, kD, kL]
      exact j1
    | succ n ih =>
      intro k mk l5 h1 h2 hCk hfk
      obtain ⟨⟨f2, f3, f4, fV, fW, f0, f8, f9, f7⟩, e0, e1, eC, eB, eR, eD, eL, eE⟩ := id hCk
      obtain ⟨kN, kS, kC, kV, kW, kB, kE, kR, kD, kL⟩ := id hK
      have zk : ∀ j, zBk A k k j = A.2.2.1 k j := fun j => if_neg (by omega)
      have zk1 : ∀ j, zBk A (k + 1) k j = (zBreak A).2.2.1 k j := fun j => if_pos (by omega)
      have gR : ∀ j, 0 ≤ j → j ≤ 8 → mk (S + 12 + 3 * k) j = A.2.2.1 k j := fun j j1 j2 => by rw [eR k j h1 (by omega) j1 j2]; exact zk j
      have tn := hW.tn
      have hrk := hW.rt (r := k) h1 (by omega)
      have hbr : ∃ mb, f_X6_breakPromiseAt [(1, S + 12 + 3 * k), (0, A.1 0 + 1)] (mk, kd, w) = some (.inl none, (mb, kd, w)) ∧ (∀ c, c ≠ S + 12 + 3 * k → mb c = mk c) ∧ mb (S + 12 + 3 * k) 9 = S + 13 + 3 * k ∧ ∀ j, 0 ≤ j → j ≤ 8 → mb (S + 12 + 3 * k) j = (zBreak A).2.2.1 k j := by
        have hq := c_breakPromiseAt (m := mk) (w := w) (R := S + 12 + 3 * k) (t := A.1 0 + 1) (kR k h1 (by omega)) (fun h => by
          rw [gR 0 (by decide) (by decide)] at h
          have := hW.rn (r := k) ⟨h1, by omega, by omega⟩
          rw [gR 6 (by decide) (by decide)]; omega)
        rw [gR 0 (by decide) (by decide), gR 4 (by decide) (by decide), gR 6 (by decide) (by decide)] at hq
        refine ⟨_, hq, ?_, ?_, ?_⟩
        · intro c hc
          split
          · funext i
            rw [qa_up_no _ (fun z => hc z.1), qa_up_no _ (fun z => hc z.1)]
          · rfl
        · split
          · rw [qa_up_no _ (by omega), qa_up_no _ (by omega)]
            exact f9 k h1 (by omega)
          · exact f9 k h1 (by omega)
        · intro j j1 j2
          simp only [zBreak]
          by_cases hcc : A.2.2.1 k 0 = 1 ∧ A.2.2.1 k 4 ≠ -1 ∧ A.2.2.1 k 4 < A.1 0 + 1
          · obtain ⟨ht, hcc⟩ := hcc
            rw [if_pos ⟨by omega, hcc⟩, if_pos ⟨⟨h1, by omega, ht⟩, hcc⟩]
            by_cases j4 : j = 4
            · subst j4
              rw [qa_up_no _ (by omega), qa_up_hit, if_pos rfl]
            · by_cases j6 : j = 6
              · subst j6
                rw [qa_up_hit]
                simp
              · rw [qa_up_no _ (by omega), qa_up_no _ (by omega), if_neg j4, if_neg j6, gR j j1 j2]
          · rw [if_neg (fun z => hcc ⟨by omega, z.2⟩), if_neg (fun z => hcc ⟨z.1.2.2, z.2⟩), gR j j1 j2]
      obtain ⟨mb, b1, b2, b3, b4⟩ := hbr
      have hnew : RC ((zBreak A).1, A.2.1, zBk A (k + 1), A.2.2.2) mb kd S := by
        refine RC_rd hK hCk (R' := zBk A (k + 1)) h1 (by omega) ?_ b3 ?_ ?_ ?_ ?_ ?_
        · intro c c1 _ _; exact b2 c c1
        · rw [b2 _ (by omega)]; exact f7 k h1 (by omega)
        · intro r j hr
          show (if r < k + 1 then _ else _) = if r < k then _ else _
          by_cases h : r < k
          · rw [if_pos h, if_pos (by omega)]
          · rw [if_neg h, if_neg (by omega)]
        · intro j j1 j2
          rw [zk1]; exact b4 j j1 j2
        · intro ht j j1 j2
          rw [zk1, zBreak_low (by decide) (by decide)] at ht
          rw [b2 _ (by omega), zk1, zBreak_low (by omega) (by omega), eD k j h1 (by omega) ((zk 0).trans ht) j1 j2]
          exact zk _
        · intro ht j j1 j2
          rw [zk1, zBreak_low (by decide) (by decide)] at ht
          rw [b2 _ (by omega), zk1, zBreak_low (by omega) (by omega), eL k j h1 (by omega) ((zk 0).trans ht) j1 j2]
          exact zk _
      obtain ⟨m2, j1, j2, j3⟩ := ih (k + 1) mb (1, S + 12 + 3 * k) (by omega) (by omega) hnew (fun c hc => by rw [b2 c (by omega)]; exact hfk c hc)
      refine ⟨m2, ?_, j2, j3⟩
      rw [ev_X9_tick_1]
      have e0' : mk S 0 = A.1 0 + 1 := e0
      simp (disch := omega) [ev_X9_tick_0, ev_X9_tick_2, ev_X9_tick_4, ev_X9_tick_5, ev_X9_tick_6, B_X9_tick_0, B_X9_tick_1, B_X9_tick_2, B_X9_tick_3, B_X9_tick_4, B_X9_tick_5, B_X9_tick_6, x_const, x_iadd, x_isub, x_imul, x_idiv, x_irem, x_ineg, x_dup, x_dup_x1, x_dup2, x_pop, x_goto, x_ifeq, x_ifne, x_iflt, x_ifge, x_ifgt, x_ifle, x_cmpeq, x_cmpne, x_cmplt, x_cmpge, x_cmpgt, x_cmple, x_null, x_nonnull, x_acmpeq, x_acmpne, x_get, x_put, x_putz, x_ald, x_ast, x_bast, x_zast, x_aast, x_alen, x_obj, x_ret, x_retz, x_vret, x_max, x_min, x_copy, x_i2l, qg_none, qg_inl, qg_inr, qg_ite, xr1, xr0, xrE, xri, xl0, xl1, xl2, xl3, xl4, xl5, xl6, xl7, xl8, xl9, xl10, xs0, xs1, xs2, xs3, xs4, xs5, xs6, xs7, xs8, xs9, xs10, xi0, xi1, xi2, xi3, xi4, xi5, xi6, xi7, xi8, xi9, xi10, xc0, xc1, xc2, xc3, xc4, xc5, xc6, xc7, xv1, xv2, xv3, xv4, xv5, xv6, xv7, dT_le, dF_le, dT_lt, dF_lt, fW, f0, f9, f4, kS, kW, kR, e0', b1, j1]
  obtain ⟨⟨f2, f3, f4, fV, fW, f0, f8, f9, f7⟩, e0, e1, eC, eB, eR, eD, eL, eE⟩ := id hC
  obtain ⟨kN, kS, kC, kV, kW, kB, kE, kR, kD, kL⟩ := id hK
  have tn := hW.tn
  obtain ⟨m', j1, j2, j3⟩ := loop1 6 0 (qa_up m S 0 (A.1 0 + 1)) (9, 0) (by decide) (by decide) (by
    have := RC_num hK hC (s := S) (i := 0) (k := 0) (v := A.1 0 + 1) (Or.inl ⟨rfl, rfl, by decide, by decide⟩)
    have hz : zBk A 0 = A.2.2.1 ∨ True := Or.inr trivial
    obtain ⟨⟨f2, f3, f4, fV, fW, f0, f8, f9, f7⟩, e0, e1, eC, eB, eR, eD, eL, eE⟩ := this
    refine ⟨⟨f2, f3, f4, fV, fW, f0, f8, f9, f7⟩, e0, e1, eC, eB, fun r j r1 r2 j1 j2 => ?_, fun r j r1 r2 rt j1 j2 => ?_, fun r j r1 r2 rt j1 j2 => ?_, eE⟩
    · rw [eR r j r1 r2 j1 j2]; exact (if_neg (by omega)).symm
    · have e : zBk A 0 r 0 = A.2.2.1 r 0 := if_neg (by omega)
      rw [eD r j r1 r2 (e.symm.trans rt) j1 j2]; exact (if_neg (by omega)).symm
    · have e : zBk A 0 r 0 = A.2.2.1 r 0 := if_neg (by omega)
      rw [eL r j r1 r2 (e.symm.trans rt) j1 j2]; exact (if_neg (by omega)).symm) (fun c hc => by
    funext i
    exact qa_up_no _ (by omega))
  refine ⟨m', ?_, j2, j3⟩
  unfold f_X9_tick
  refine qa_fn_eq ?_ (by simp)
  simp (disch := omega) [ev_X9_tick_0, ev_X9_tick_2, ev_X9_tick_4, ev_X9_tick_5, ev_X9_tick_6, B_X9_tick_0, B_X9_tick_1, B_X9_tick_2, B_X9_tick_3, B_X9_tick_4, B_X9_tick_5, B_X9_tick_6, x_const, x_iadd, x_isub, x_imul, x_idiv, x_irem, x_ineg, x_dup, x_dup_x1, x_dup2, x_pop, x_goto, x_ifeq, x_ifne, x_iflt, x_ifge, x_ifgt, x_ifle, x_cmpeq, x_cmpne, x_cmplt, x_cmpge, x_cmpgt, x_cmple, x_null, x_nonnull, x_acmpeq, x_acmpne, x_get, x_put, x_putz, x_ald, x_ast, x_bast, x_zast, x_aast, x_alen, x_obj, x_ret, x_retz, x_vret, x_max, x_min, x_copy, x_i2l, qg_none, qg_inl, qg_inr, qg_ite, xr1, xr0, xrE, xri, xl0, xl1, xl2, xl3, xl4, xl5, xl6, xl7, xl8, xl9, xl10, xs0, xs1, xs2, xs3, xs4, xs5, xs6, xs7, xs8, xs9, xs10, xi0, xi1, xi2, xi3, xi4, xi5, xi6, xi7, xi8, xi9, xi10, xc0, xc1, xc2, xc3, xc4, xc5, xc6, xc7, xv1, xv2, xv3, xv4, xv5, xv6, xv7, dT_le, dF_le, dT_lt, dF_lt, dT_eq, dF_eq, qa_up_hit, qa_up_no, f2, f3, f4, fV, fW, f0, f8, f9, f7, e0, e1, eC, eB, eR, kS, kC, kV, kW, kB, kE, kR, kD, kL, j1]
