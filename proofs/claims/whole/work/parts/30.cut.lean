theorem zlive_pos {M : Int} {A : zA} (hW : zW M A) : 0 ≤ zlive A := by
  rw [zlive_4]
  have h := hW.2.2.2.2.2.1
  have h0 := h 0 (by decide) (by decide)
  have h1 := h 1 (by decide) (by decide)
  have h2 := h 2 (by decide) (by decide)
  have h3 := h 3 (by decide) (by decide)
  unfold zWb at h0 h1 h2 h3
  have e : ∀ (c : Prop) [Decidable c] (x : Int), (c → 0 ≤ x) → 0 ≤ if c then x else 0 := fun c _ x h => by split <;> simp [*]
  have k0 := e _ _ (fun h => by have := h0 h; omega : A.2.1 0 1 = 1 → 0 ≤ A.2.1 0 5 - A.2.1 0 4)
  have k1 := e _ _ (fun h => by have := h1 h; omega : A.2.1 1 1 = 1 → 0 ≤ A.2.1 1 5 - A.2.1 1 4)
  have k2 := e _ _ (fun h => by have := h2 h; omega : A.2.1 2 1 = 1 → 0 ≤ A.2.1 2 5 - A.2.1 2 4)
  have k3 := e _ _ (fun h => by have := h3 h; omega : A.2.1 3 1 = 1 → 0 ≤ A.2.1 3 5 - A.2.1 3 4)
  omega
theorem zW.rt {M : Int} {A : zA} (hW : zW M A) {r : Int} (h1 : 0 ≤ r) (h2 : r < 6) : A.2.2.1 r 0 = 0 ∨ A.2.2.1 r 0 = 1 := hW.2.2.2.2.1 r h1 h2
theorem zW.bt {M : Int} {A : zA} (hW : zW M A) {b : Int} (h1 : 0 ≤ b) (h2 : b < 4) : A.2.1 b 1 = 0 ∨ A.2.1 b 1 = 1 := hW.2.2.2.1 b h1 h2
theorem zW.rn {M : Int} {A : zA} (hW : zW M A) {r : Int} (h : zRl A r) : 0 ≤ A.2.2.1 r 1 ∧ A.2.2.1 r 1 < 4 ∧ A.2.1 (A.2.2.1 r 1) 1 = 1 ∧ 0 ≤ A.2.2.1 r 2 ∧ A.2.2.1 r 2 ≤ 512 ∧ 0 ≤ A.2.2.1 r 3 ∧ A.2.2.1 r 3 ≤ A.1 0 ∧ -1 ≤ A.2.2.1 r 4 ∧ A.2.2.1 r 4 ≤ A.1 0 + 60 ∧ 0 ≤ A.2.2.1 r 5 ∧ A.2.2.1 r 5 ≤ 500000 ∧ 0 ≤ A.2.2.1 r 6 ∧ A.2.2.1 r 6 ≤ A.1 0 ∧ 0 ≤ A.2.2.1 r 7 ∧ A.2.2.1 r 7 ≤ 500000 ∧ 0 ≤ A.2.2.1 r 8 ∧ A.2.2.1 r 8 ≤ 500000 ∧
    A.2.1 (A.2.2.1 r 1) 4 ≤ A.2.2.1 r 2 ∧ A.2.2.1 r 2 ≤ A.2.1 (A.2.2.1 r 1) 5 := by
  obtain ⟨⟨w0, w1, w2, w3, w4, w5⟩, w6, w7, w8, w9, wB, wE, wR, wD⟩ := id hW
  obtain ⟨⟨r1, r2, r3⟩, r4, r5, r6, r7, r8, r9, r10, r11, r12, r13, r14, r15, r16, r17⟩ := wR r h.1 h.2.1 h.2.2
  obtain ⟨b1, b2, b3, b4⟩ := wB _ r1 r2 r3
  exact ⟨r1, r2, r3, by omega, by omega, r6, r7, r8, r9, r10, by omega, r12, r13, r14, by omega, r16, by omega, r4, r5⟩
theorem zW.bn {M : Int} {A : zA} (hW : zW M A) {b : Int} (h : zBl A b) : 0 ≤ A.2.1 b 4 ∧ A.2.1 b 4 ≤ A.2.1 b 5 ∧ A.2.1 b 5 ≤ 512 ∧ 0 ≤ A.2.1 b 7 ∧ A.2.1 b 7 ≤ 512 ∧ 0 ≤ A.2.1 b 6 ∧ A.2.1 b 6 ≤ 4608 := by
  have ht := zW_total hW h
  obtain ⟨⟨w0, w1, w2, w3, w4, w5⟩, w6, w7, w8, w9, wB, wE, wR, wD⟩ := id hW
  obtain ⟨b1, b2, b3, b4, b5, b6⟩ := wB b h.1 h.2.1 h.2.2
  exact ⟨b1, b2, b3, b4, by omega, ht.1, ht.2⟩
theorem zW.tn {M : Int} {A : zA} (hW : zW M A) : 0 ≤ A.1 0 ∧ A.1 0 ≤ 1000000 := by
  obtain ⟨⟨w0, w1, w2, w3, w4, w5⟩, w6, w7, w8, w9, wB, wE, wR, wD⟩ := id hW
  exact ⟨w2, w3⟩
theorem zS.n {st : Int → Int} (h : zS st) : 1 ≤ st 0 ∧ st 0 ≤ 400 ∧ 1 ≤ st 1 ∧ st 1 ≤ 900 ∧ 0 ≤ st 2 ∧ st 2 ≤ 500 ∧ 0 ≤ st 3 ∧ st 3 ≤ 99 := ⟨h.1, h.2.1, h.2.2.1, h.2.2.2.1, h.2.2.2.2.1, h.2.2.2.2.2.1, h.2.2.2.2.2.2.1, h.2.2.2.2.2.2.2.1⟩
theorem c_holderOf {m : Int → Int → Int} {kd : Int → Nat × Int} {w : Nat × Nat × Nat} {A : zA} {S : Int} (hK : KS kd S) (hC : RC A m kd S) {M : Int} (hW : zW M A) {st : Int → Int} {y z : Int} (hy : CR st m kd y z) (hs : zS st) {b : Int} (hb : zBl A b) : f_X9_holderOf [(1, S), (1, S + 4 + 2 * b), (1, y)] (m, kd, w) = some (.inl (some (0, zHolder A st b)), (m, kd, w)) := by
  obtain ⟨⟨f2, f3, f4, fV, fW, f0, f8, f9, f7⟩, e0, e1, eC, eB, eR, eD, eL, eE⟩ := id hC
  obtain ⟨kN, kS, kC, kV, kW, kB, kE, kR, kD, kL⟩ := id hK
  obtain ⟨b1, b2, b3⟩ := id hb
  obtain ⟨n1, n2, n3, n4, n5, n6, n7⟩ := hW.bn hb
  obtain ⟨y1, y2, y3, y4⟩ := id hy
  have hv := c_valueOf (w := w) hy
  have loop : ∀ (n : Nat) (k : Int) (l5 l6 : qV), 0 ≤ k → k + n = 6 → qa_ev P_X9_holderOf 2 [(1, S), (1, S + 4 + 2 * b), (1, y), (0, st 3), (0, k), l5, l6] [] (m, kd, w) = some (.inl (some (0, zff (fun r => zHold A st r b) k n)), (m, kd, w)) := by
    intro n
    induction n with
    | zero =>
      intro k l5 l6 h1 h2
      rw [ev_X9_holderOf_2]
      simp (disch := omega) [ev_X9_holderOf_0, ev_X9_holderOf_1, ev_X9_holderOf_3, ev_X9_holderOf_4, ev_X9_holderOf_5, ev_X9_holderOf_6, B_X9_holderOf_0, B_X9_holderOf_1, B_X9_holderOf_2, B_X9_holderOf_3, B_X9_holderOf_4, B_X9_holderOf_5, B_X9_holderOf_6, x_const, x_iadd, x_isub, x_imul, x_idiv, x_irem, x_ineg, x_dup, x_dup_x1, x_dup2, x_pop, x_goto, x_ifeq, x_ifne, x_iflt, x_ifge, x_ifgt, x_ifle, x_cmpeq, x_cmpne, x_cmplt, x_cmpge, x_cmpgt, x_cmple, x_null, x_nonnull, x_acmpeq, x_acmpne, x_get, x_put, x_putz, x_ald, x_ast, x_bast, x_zast, x_aast, x_alen, x_obj, x_ret, x_retz, x_vret, x_max, x_min, x_copy, x_i2l, qg_none, qg_inl, qg_inr, qg_ite, xr1, xr0, xrE, xri, xl0, xl1, xl2, xl3, xl4, xl5, xl6, xl7, xl8, xl9, xl10, xs0, xs1, xs2, xs3, xs4, xs5, xs6, xs7, xs8, xs9, xs10, xi0, xi1, xi2, xi3, xi4, xi5, xi6, xi7, xi8, xi9, xi10, xc0, xc1, xc2, xc3, xc4, xc5, xc6, xc7, xv1, xv2, xv3, xv4, xv5, xv6, xv7, dT_le, dF_le, dT_lt, dF_lt, f2, f3, f4, fV, fW, f0, f8, f9, f7, e0, e1, eC, eB, eR, kS, kC, kV, kW, kB, kE, kR, kD, kL, zff]
    | succ n ih =>
      intro k l5 l6 h1 h2
      have hi := c_isIn (m := m) (w := w) (kR k h1 (by omega)) (kB b b1 b2)
      have ih' := ih (k + 1)
      rw [ev_X9_holderOf_2]
      by_cases ht : A.2.2.1 k 0 = 1
      · obtain ⟨t1, t2, t3, t4, t5, t6, t7, t8, t9⟩ := hW.rn ⟨h1, by omega, ht⟩
        have tn := hW.tn
        have hc := c_isCovered (m := m) (w := w) (kR k h1 (by omega)) (A.1 0) (st 3) (by rw [eR k 3 h1 (by omega) (by decide) (by decide)]; omega)
        simp (disch := omega) [ev_X9_holderOf_0, ev_X9_holderOf_1, ev_X9_holderOf_3, ev_X9_holderOf_4, ev_X9_holderOf_5, ev_X9_holderOf_6, B_X9_holderOf_0, B_X9_holderOf_1, B_X9_holderOf_2, B_X9_holderOf_3, B_X9_holderOf_4, B_X9_holderOf_5, B_X9_holderOf_6, x_const, x_iadd, x_isub, x_imul, x_idiv, x_irem, x_ineg, x_dup, x_dup_x1, x_dup2, x_pop, x_goto, x_ifeq, x_ifne, x_iflt, x_ifge, x_ifgt, x_ifle, x_cmpeq, x_cmpne, x_cmplt, x_cmpge, x_cmpgt, x_cmple, x_null, x_nonnull, x_acmpeq, x_acmpne, x_get, x_put, x_putz, x_ald, x_ast, x_bast, x_zast, x_aast, x_alen, x_obj, x_ret, x_retz, x_vret, x_max, x_min, x_copy, x_i2l, qg_none, qg_inl, qg_inr, qg_ite, xr1, xr0, xrE, xri, xl0, xl1, xl2, xl3, xl4, xl5, xl6, xl7, xl8, xl9, xl10, xs0, xs1, xs2, xs3, xs4, xs5, xs6, xs7, xs8, xs9, xs10, xi0, xi1, xi2, xi3, xi4, xi5, xi6, xi7, xi8, xi9, xi10, xc0, xc1, xc2, xc3, xc4, xc5, xc6, xc7, xv1, xv2, xv3, xv4, xv5, xv6, xv7, dT_le, dF_le, dT_lt, dF_lt, f2, f3, f4, fV, fW, f0, f8, f9, f7, e0, e1, eC, eB, eR, kS, kC, kV, kW, kB, kE, kR, kD, kL, hi, hc, ih', zff, ht]
        grind
      · have ht0 : A.2.2.1 k 0 = 0 := by have := hW.rt (r := k) h1 (by omega); omega
        simp (disch := omega) [ev_X9_holderOf_0, ev_X9_holderOf_1, ev_X9_holderOf_3, ev_X9_holderOf_4, ev_X9_holderOf_5, ev_X9_holderOf_6, B_X9_holderOf_0, B_X9_holderOf_1, B_X9_holderOf_2, B_X9_holderOf_3, B_X9_holderOf_4, B_X9_holderOf_5, B_X9_holderOf_6, x_const, x_iadd, x_isub, x_imul, x_idiv, x_irem, x_ineg, x_dup, x_dup_x1, x_dup2, x_pop, x_goto, x_ifeq, x_ifne, x_iflt, x_ifge, x_ifgt, x_ifle, x_cmpeq, x_cmpne, x_cmplt, x_cmpge, x_cmpgt, x_cmple, x_null, x_nonnull, x_acmpeq, x_acmpne, x_get, x_put, x_putz, x_ald, x_ast, x_bast, x_zast, x_aast, x_alen, x_obj, x_ret, x_retz, x_vret, x_max, x_min, x_copy, x_i2l, qg_none, qg_inl, qg_inr, qg_ite, xr1, xr0, xrE, xri, xl0, xl1, xl2, xl3, xl4, xl5, xl6, xl7, xl8, xl9, xl10, xs0, xs1, xs2, xs3, xs4, xs5, xs6, xs7, xs8, xs9, xs10, xi0, xi1, xi2, xi3, xi4, xi5, xi6, xi7, xi8, xi9, xi10, xc0, xc1, xc2, xc3, xc4, xc5, xc6, xc7, xv1, xv2, xv3, xv4, xv5, xv6, xv7, dT_le, dF_le, dT_lt, dF_lt, f2, f3, f4, fV, fW, f0, f8, f9, f7, e0, e1, eC, eB, eR, kS, kC, kV, kW, kB, kE, kR, kD, kL, hi, ih', zff, ht0]
  unfold zHolder
  unfold f_X9_holderOf
  refine qa_fn_eq ?_ (by simp)
  by_cases hp : A.2.1 b 5 ≤ A.2.1 b 4
  · simp (disch := omega) [ev_X9_holderOf_0, ev_X9_holderOf_1, ev_X9_holderOf_3, ev_X9_holderOf_4, ev_X9_holderOf_5, ev_X9_holderOf_6, B_X9_holderOf_0, B_X9_holderOf_1, B_X9_holderOf_2, B_X9_holderOf_3, B_X9_holderOf_4, B_X9_holderOf_5, B_X9_holderOf_6, x_const, x_iadd, x_isub, x_imul, x_idiv, x_irem, x_ineg, x_dup, x_dup_x1, x_dup2, x_pop, x_goto, x_ifeq, x_ifne, x_iflt, x_ifge, x_ifgt, x_ifle, x_cmpeq, x_cmpne, x_cmplt, x_cmpge, x_cmpgt, x_cmple, x_null, x_nonnull, x_acmpeq, x_acmpne, x_get, x_put, x_putz, x_ald, x_ast, x_bast, x_zast, x_aast, x_alen, x_obj, x_ret, x_retz, x_vret, x_max, x_min, x_copy, x_i2l, qg_none, qg_inl, qg_inr, qg_ite, xr1, xr0, xrE, xri, xl0, xl1, xl2, xl3, xl4, xl5, xl6, xl7, xl8, xl9, xl10, xs0, xs1, xs2, xs3, xs4, xs5, xs6, xs7, xs8, xs9, xs10, xi0, xi1, xi2, xi3, xi4, xi5, xi6, xi7, xi8, xi9, xi10, xc0, xc1, xc2, xc3, xc4, xc5, xc6, xc7, xv1, xv2, xv3, xv4, xv5, xv6, xv7, dT_le, dF_le, dT_lt, dF_lt, f2, f3, f4, fV, fW, f0, f8, f9, f7, e0, e1, eC, eB, eR, kS, kC, kV, kW, kB, kE, kR, kD, kL, hp]
  · simp (disch := omega) [ev_X9_holderOf_0, ev_X9_holderOf_1, ev_X9_holderOf_3, ev_X9_holderOf_4, ev_X9_holderOf_5, ev_X9_holderOf_6, B_X9_holderOf_0, B_X9_holderOf_1, B_X9_holderOf_2, B_X9_holderOf_3, B_X9_holderOf_4, B_X9_holderOf_5, B_X9_holderOf_6, x_const, x_iadd, x_isub, x_imul, x_idiv, x_irem, x_ineg, x_dup, x_dup_x1, x_dup2, x_pop, x_goto, x_ifeq, x_ifne, x_iflt, x_ifge, x_ifgt, x_ifle, x_cmpeq, x_cmpne, x_cmplt, x_cmpge, x_cmpgt, x_cmple, x_null, x_nonnull, x_acmpeq, x_acmpne, x_get, x_put, x_putz, x_ald, x_ast, x_bast, x_zast, x_aast, x_alen, x_obj, x_ret, x_retz, x_vret, x_max, x_min, x_copy, x_i2l, qg_none, qg_inl, qg_inr, qg_ite, xr1, xr0, xrE, xri, xl0, xl1, xl2, xl3, xl4, xl5, xl6, xl7, xl8, xl9, xl10, xs0, xs1, xs2, xs3, xs4, xs5, xs6, xs7, xs8, xs9, xs10, xi0, xi1, xi2, xi3, xi4, xi5, xi6, xi7, xi8, xi9, xi10, xc0, xc1, xc2, xc3, xc4, xc5, xc6, xc7, xv1, xv2, xv3, xv4, xv5, xv6, xv7, dT_le, dF_le, dT_lt, dF_lt, f2, f3, f4, fV, fW, f0, f8, f9, f7, e0, e1, eC, eB, eR, kS, kC, kV, kW, kB, kE, kR, kD, kL, hp, hv, y1, loop 6 0]
theorem c_isReadByAll {m : Int → Int → Int} {kd : Int → Nat × Int} {w : Nat × Nat × Nat} {A : zA} {S : Int} (hK : KS kd S) (hC : RC A m kd S) {M : Int} (hW : zW M A) {b : Int} (hb : zBl A b) : f_X9_isReadByAll [(1, S), (1, S + 4 + 2 * b)] (m, kd, w) = some (.inl (some (0, if 0 < zReaders A b ∧ zLowest A b = -1 then 1 else 0)), (m, kd, w)) := by
  obtain ⟨⟨f2, f3, f4, fV, fW, f0, f8, f9, f7⟩, e0, e1, eC, eB, eR, eD, eL, eE⟩ := id hC
  obtain ⟨kN, kS, kC, kV, kW, kB, kE, kR, kD, kL⟩ := id hK
  obtain ⟨b1, b2, b3⟩ := id hb
  have loop : ∀ (n : Nat) (k h : Int) (l6 : qV), 0 ≤ k → k + n = 6 → h = 0 ∨ h = 1 → qa_ev P_X9_isReadByAll 1 [(1, S), (1, S + 4 + 2 * b), (0, h), (1, S + 3), (0, 6), (0, k), l6] [] (m, kd, w) = some (.inl (some (0, if 0 < h + zsf (fun r => if zIn A r b then 1 else 0) k n ∧ zff (fun r => zLow A r b) k n = -1 then 1 else 0)), (m, kd, w)) := by
    intro n
    induction n with
    | zero =>
      intro k h l6 h1 h2 h3
      rw [ev_X9_isReadByAll_1]
      rcases h3 with rfl | rfl <;> simp (disch := omega) [ev_X9_isReadByAll_0, ev_X9_isReadByAll_2, ev_X9_isReadByAll_3, B_X9_isReadByAll_0, B_X9_isReadByAll_1, B_X9_isReadByAll_2, B_X9_isReadByAll_3, x_const, x_iadd, x_isub, x_imul, x_idiv, x_irem, x_ineg, x_dup, x_dup_x1, x_dup2, x_pop, x_goto, x_ifeq, x_ifne, x_iflt, x_ifge, x_ifgt, x_ifle, x_cmpeq, x_cmpne, x_cmplt, x_cmpge, x_cmpgt, x_cmple, x_null, x_nonnull, x_acmpeq, x_acmpne, x_get, x_put, x_putz, x_ald, x_ast, x_bast, x_zast, x_aast, x_alen, x_obj, x_ret, x_retz, x_vret, x_max, x_min, x_copy, x_i2l, qg_none, qg_inl, qg_inr, qg_ite, xr1, xr0, xrE, xri, xl0, xl1, xl2, xl3, xl4, xl5, xl6, xl7, xl8, xl9, xl10, xs0, xs1, xs2, xs3, xs4, xs5, xs6, xs7, xs8, xs9, xs10, xi0, xi1, xi2, xi3, xi4, xi5, xi6, xi7, xi8, xi9, xi10, xc0, xc1, xc2, xc3, xc4, xc5, xc6, xc7, xv1, xv2, xv3, xv4, xv5, xv6, xv7, dT_le, dF_le, dT_lt, dF_lt, f2, f3, f4, fV, fW, f0, f8, f9, f7, e0, e1, eC, eB, eR, kS, kC, kV, kW, kB, kE, kR, kD, kL, zff, zsf]
    | succ n ih =>
      intro k h l6 h1 h2 h3
      have hi := c_isIn (m := m) (w := w) (kR k h1 (by omega)) (kB b b1 b2)
      have ih' := ih (k + 1)
      have hz := zsf_01 (g := fun r => if zIn A r b then 1 else 0) (fun i => by split <;> decide) n (k + 1)
      rw [ev_X9_isReadByAll_1]
      by_cases ht : A.2.2.1 k 0 = 1
      · obtain ⟨t1, t2, t3, t4, t5, t6, t7, t8, t9⟩ := hW.rn ⟨h1, by omega, ht⟩
        by_cases hin : A.2.2.1 k 1 = b
        · by_cases hp : A.2.2.1 k 2 ≤ A.2.1 b 4
          · simp (disch := omega) [ev_X9_isReadByAll_0, ev_X9_isReadByAll_2, ev_X9_isReadByAll_3, B_X9_isReadByAll_0, B_X9_isReadByAll_1, B_X9_isReadByAll_2, B_X9_isReadByAll_3, x_const, x_iadd, x_isub, x_imul, x_idiv, x_irem, x_ineg, x_dup, x_dup_x1, x_dup2, x_pop, x_goto, x_ifeq, x_ifne, x_iflt, x_ifge, x_ifgt, x_ifle, x_cmpeq, x_cmpne, x_cmplt, x_cmpge, x_cmpgt, x_cmple, x_null, x_nonnull, x_acmpeq, x_acmpne, x_get, x_put, x_putz, x_ald, x_ast, x_bast, x_zast, x_aast, x_alen, x_obj, x_ret, x_retz, x_vret, x_max, x_min, x_copy, x_i2l, qg_none, qg_inl, qg_inr, qg_ite, xr1, xr0, xrE, xri, xl0, xl1, xl2, xl3, xl4, xl5, xl6, xl7, xl8, xl9, xl10, xs0, xs1, xs2, xs3, xs4, xs5, xs6, xs7, xs8, xs9, xs10, xi0, xi1, xi2, xi3, xi4, xi5, xi6, xi7, xi8, xi9, xi10, xc0, xc1, xc2, xc3, xc4, xc5, xc6, xc7, xv1, xv2, xv3, xv4, xv5, xv6, xv7, dT_le, dF_le, dT_lt, dF_lt, f2, f3, f4, fV, fW, f0, f8, f9, f7, e0, e1, eC, eB, eR, kS, kC, kV, kW, kB, kE, kR, kD, kL, hi, ih', zff, zsf, ht, hin, hp]
            grind
          · simp (disch := omega) [ev_X9_isReadByAll_0, ev_X9_isReadByAll_2, ev_X9_isReadByAll_3, B_X9_isReadByAll_0, B_X9_isReadByAll_1, B_X9_isReadByAll_2, B_X9_isReadByAll_3, x_const, x_iadd, x_isub, x_imul, x_idiv, x_irem, x_ineg, x_dup, x_dup_x1, x_dup2, x_pop, x_goto, x_ifeq, x_ifne, x_iflt, x_ifge, x_ifgt, x_ifle, x_cmpeq, x_cmpne, x_cmplt, x_cmpge, x_cmpgt, x_cmple, x_null, x_nonnull, x_acmpeq, x_acmpne, x_get, x_put, x_putz, x_ald, x_ast, x_bast, x_zast, x_aast, x_alen, x_obj, x_ret, x_retz, x_vret, x_max, x_min, x_copy, x_i2l, qg_none, qg_inl, qg_inr, qg_ite, xr1, xr0, xrE, xri, xl0, xl1, xl2, xl3, xl4, xl5, xl6, xl7, xl8, xl9, xl10, xs0, xs1, xs2, xs3, xs4, xs5, xs6, xs7, xs8, xs9, xs10, xi0, xi1, xi2, xi3, xi4, xi5, xi6, xi7, xi8, xi9, xi10, xc0, xc1, xc2, xc3, xc4, xc5, xc6, xc7, xv1, xv2, xv3, xv4, xv5, xv6, xv7, dT_le, dF_le, dT_lt, dF_lt, f2, f3, f4, fV, fW, f0, f8, f9, f7, e0, e1, eC, eB, eR, kS, kC, kV, kW, kB, kE, kR, kD, kL, hi, ih', zff, zsf, ht, hin, hp]
            grind
        · simp (disch := omega) [ev_X9_isReadByAll_0, ev_X9_isReadByAll_2, ev_X9_isReadByAll_3, B_X9_isReadByAll_0, B_X9_isReadByAll_1, B_X9_isReadByAll_2, B_X9_isReadByAll_3, x_const, x_iadd, x_isub, x_imul, x_idiv, x_irem, x_ineg, x_dup, x_dup_x1, x_dup2, x_pop, x_goto, x_ifeq, x_ifne, x_iflt, x_ifge, x_ifgt, x_ifle, x_cmpeq, x_cmpne, x_cmplt, x_cmpge, x_cmpgt, x_cmple, x_null, x_nonnull, x_acmpeq, x_acmpne, x_get, x_put, x_putz, x_ald, x_ast, x_bast, x_zast, x_aast, x_alen, x_obj, x_ret, x_retz, x_vret, x_max, x_min, x_copy, x_i2l, qg_none, qg_inl, qg_inr, qg_ite, xr1, xr0, xrE, xri, xl0, xl1, xl2, xl3, xl4, xl5, xl6, xl7, xl8, xl9, xl10, xs0, xs1, xs2, xs3, xs4, xs5, xs6, xs7, xs8, xs9, xs10, xi0, xi1, xi2, xi3, xi4, xi5, xi6, xi7, xi8, xi9, xi10, xc0, xc1, xc2, xc3, xc4, xc5, xc6, xc7, xv1, xv2, xv3, xv4, xv5, xv6, xv7, dT_le, dF_le, dT_lt, dF_lt, f2, f3, f4, fV, fW, f0, f8, f9, f7, e0, e1, eC, eB, eR, kS, kC, kV, kW, kB, kE, kR, kD, kL, hi, ih', zff, zsf, ht, hin]
          grind
      · have ht0 : A.2.2.1 k 0 = 0 := by have := hW.rt (r := k) h1 (by omega); omega
        simp (disch := omega) [ev_X9_isReadByAll_0, ev_X9_isReadByAll_2, ev_X9_isReadByAll_3, B_X9_isReadByAll_0, B_X9_isReadByAll_1, B_X9_isReadByAll_2, B_X9_isReadByAll_3, x_const, x_iadd, x_isub, x_imul, x_idiv, x_irem, x_ineg, x_dup, x_dup_x1, x_dup2, x_pop, x_goto, x_ifeq, x_ifne, x_iflt, x_ifge, x_ifgt, x_ifle, x_cmpeq, x_cmpne, x_cmplt, x_cmpge, x_cmpgt, x_cmple, x_null, x_nonnull, x_acmpeq, x_acmpne, x_get, x_put, x_putz, x_ald, x_ast, x_bast, x_zast, x_aast, x_alen, x_obj, x_ret, x_retz, x_vret, x_max, x_min, x_copy, x_i2l, qg_none, qg_inl, qg_inr, qg_ite, xr1, xr0, xrE, xri, xl0, xl1, xl2, xl3, xl4, xl5, xl6, xl7, xl8, xl9, xl10, xs0, xs1, xs2, xs3, xs4, xs5, xs6, xs7, xs8, xs9, xs10, xi0, xi1, xi2, xi3, xi4, xi5, xi6, xi7, xi8, xi9, xi10, xc0, xc1, xc2, xc3, xc4, xc5, xc6, xc7, xv1, xv2, xv3, xv4, xv5, xv6, xv7, dT_le, dF_le, dT_lt, dF_lt, f2, f3, f4, fV, fW, f0, f8, f9, f7, e0, e1, eC, eB, eR, kS, kC, kV, kW, kB, kE, kR, kD, kL, hi, ih', zff, zsf, ht0]
        grind
  unfold zReaders zLowest
  unfold f_X9_isReadByAll
  refine qa_fn_eq ?_ (by simp)
  simp (disch := omega) [ev_X9_isReadByAll_0, ev_X9_isReadByAll_2, ev_X9_isReadByAll_3, B_X9_isReadByAll_0, B_X9_isReadByAll_1, B_X9_isReadByAll_2, B_X9_isReadByAll_3, x_const, x_iadd, x_isub, x_imul, x_idiv, x_irem, x_ineg, x_dup, x_dup_x1, x_dup2, x_pop, x_goto, x_ifeq, x_ifne, x_iflt, x_ifge, x_ifgt, x_ifle, x_cmpeq, x_cmpne, x_cmplt, x_cmpge, x_cmpgt, x_cmple, x_null, x_nonnull, x_acmpeq, x_acmpne, x_get, x_put, x_putz, x_ald, x_ast, x_bast, x_zast, x_aast, x_alen, x_obj, x_ret, x_retz, x_vret, x_max, x_min, x_copy, x_i2l, qg_none, qg_inl, qg_inr, qg_ite, xr1, xr0, xrE, xri, xl0, xl1, xl2, xl3, xl4, xl5, xl6, xl7, xl8, xl9, xl10, xs0, xs1, xs2, xs3, xs4, xs5, xs6, xs7, xs8, xs9, xs10, xi0, xi1, xi2, xi3, xi4, xi5, xi6, xi7, xi8, xi9, xi10, xc0, xc1, xc2, xc3, xc4, xc5, xc6, xc7, xv1, xv2, xv3, xv4, xv5, xv6, xv7, dT_le, dF_le, dT_lt, dF_lt, f2, f3, f4, fV, fW, f0, f8, f9, f7, e0, e1, eC, eB, eR, kS, kC, kV, kW, kB, kE, kR, kD, kL, loop 6 0 0]
theorem c_causeFor {m : Int → Int → Int} {kd : Int → Nat × Int} {w : Nat × Nat × Nat} {A : zA} {S : Int} (hK : KS kd S) (hC : RC A m kd S) {M : Int} (hW : zW M A) {st : Int → Int} {y z : Int} (hy : CR st m kd y z) (hs : zS st) {b : Int} (hb : zBl A b) : f_X9_causeFor [(1, S), (1, S + 4 + 2 * b), (1, y)] (m, kd, w) = some (.inl (some (0, zCause A st b)), (m, kd, w)) := by
  obtain ⟨⟨f2, f3, f4, fV, fW, f0, f8, f9, f7⟩, e0, e1, eC, eB, eR, eD, eL, eE⟩ := id hC
  obtain ⟨kN, kS, kC, kV, kW, kB, kE, kR, kD, kL⟩ := id hK
  obtain ⟨b1, b2, b3⟩ := id hb
  obtain ⟨n1, n2, n3, n4, n5, n6, n7⟩ := hW.bn hb
  obtain ⟨y1, y2, y3, y4⟩ := id hy
  have hv := c_valueOf (w := w) hy
  have h1 := c_holderOf (w := w) hK hC hW hy hs hb
  have h2 := c_isReadByAll (w := w) hK hC hW hb
  have h3 := c_at (m := m) (w := w) (p := A.2.1 b 4) (kB b b1 b2) (f8 b b1 b2) (kE b b1 b2)
  have hE := eE b (A.2.1 b 4) b1 b2 b3 (Int.le_refl _)
  unfold zCause
  unfold f_X9_causeFor
  refine qa_fn_eq ?_ (by simp)
  by_cases hp : A.2.1 b 5 ≤ A.2.1 b 4
  · simp (disch := omega) [ev_X9_causeFor_0, ev_X9_causeFor_1, ev_X9_causeFor_2, ev_X9_causeFor_3, ev_X9_causeFor_4, ev_X9_causeFor_5, ev_X9_causeFor_6, ev_X9_causeFor_7, ev_X9_causeFor_8, B_X9_causeFor_0, B_X9_causeFor_1, B_X9_causeFor_2, B_X9_causeFor_3, B_X9_causeFor_4, B_X9_causeFor_5, B_X9_causeFor_6, B_X9_causeFor_7, B_X9_causeFor_8, x_const, x_iadd, x_isub, x_imul, x_idiv, x_irem, x_ineg, x_dup, x_dup_x1, x_dup2, x_pop, x_goto, x_ifeq, x_ifne, x_iflt, x_ifge, x_ifgt, x_ifle, x_cmpeq, x_cmpne, x_cmplt, x_cmpge, x_cmpgt, x_cmple, x_null, x_nonnull, x_acmpeq, x_acmpne, x_get, x_put, x_putz, x_ald, x_ast, x_bast, x_zast, x_aast, x_alen, x_obj, x_ret, x_retz, x_vret, x_max, x_min, x_copy, x_i2l, qg_none, qg_inl, qg_inr, qg_ite, xr1, xr0, xrE, xri, xl0, xl1, xl2, xl3, xl4, xl5, xl6, xl7, xl8, xl9, xl10, xs0, xs1, xs2, xs3, xs4, xs5, xs6, xs7, xs8, xs9, xs10, xi0, xi1, xi2, xi3, xi4, xi5, xi6, xi7, xi8, xi9, xi10, xc0, xc1, xc2, xc3, xc4, xc5, xc6, xc7, xv1, xv2, xv3, xv4, xv5, xv6, xv7, dT_le, dF_le, dT_lt, dF_lt, f2, f3, f4, fV, fW, f0, f8, f9, f7, e0, e1, eC, eB, eR, kS, kC, kV, kW, kB, kE, kR, kD, kL, h3, hp]
  · have hE := hE (by omega)
    obtain ⟨q1, q2, q3⟩ := hW.2.2.2.2.2.2.1 b _ b1 b2 b3 (Int.le_refl _) (by omega)
    have tn := hW.tn
    have ne := hK.ne1 hE.1
    simp (disch := omega) [ev_X9_causeFor_0, ev_X9_causeFor_1, ev_X9_causeFor_2, ev_X9_causeFor_3, ev_X9_causeFor_4, ev_X9_causeFor_5, ev_X9_causeFor_6, ev_X9_causeFor_7, ev_X9_causeFor_8, B_X9_causeFor_0, B_X9_causeFor_1, B_X9_causeFor_2, B_X9_causeFor_3, B_X9_causeFor_4, B_X9_causeFor_5, B_X9_causeFor_6, B_X9_causeFor_7, B_X9_causeFor_8, x_const, x_iadd, x_isub, x_imul, x_idiv, x_irem, x_ineg, x_dup, x_dup_x1, x_dup2, x_pop, x_goto, x_ifeq, x_ifne, x_iflt, x_ifge, x_ifgt, x_ifle, x_cmpeq, x_cmpne, x_cmplt, x_cmpge, x_cmpgt, x_cmple, x_null, x_nonnull, x_acmpeq, x_acmpne, x_get, x_put, x_putz, x_ald, x_ast, x_bast, x_zast, x_aast, x_alen, x_obj, x_ret, x_retz, x_vret, x_max, x_min, x_copy, x_i2l, qg_none, qg_inl, qg_inr, qg_ite, xr1, xr0, xrE, xri, xl0, xl1, xl2, xl3, xl4, xl5, xl6, xl7, xl8, xl9, xl10, xs0, xs1, xs2, xs3, xs4, xs5, xs6, xs7, xs8, xs9, xs10, xi0, xi1, xi2, xi3, xi4, xi5, xi6, xi7, xi8, xi9, xi10, xc0, xc1, xc2, xc3, xc4, xc5, xc6, xc7, xv1, xv2, xv3, xv4, xv5, xv6, xv7, dT_le, dF_le, dT_lt, dF_lt, f2, f3, f4, fV, fW, f0, f8, f9, f7, e0, e1, eC, eB, eR, kS, kC, kV, kW, kB, kE, kR, kD, kL, h1, h2, h3, hv, y1, hp, hE, ne]
    grind
