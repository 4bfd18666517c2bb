theorem c_wL {A : zA} {M : Int} {g0 : Int} {m0 : Int → Int → Int} {kd0 : Int → Nat × Int} {n0 c0 s0 : Nat} (hK : KS kd0 3) (hC : RC A m0 kd0 3) (hW : zW M A) (hT : A.1 0 < 99900) (hx : kd0 0 = (14, 0)) (hn : m0 0 1 = 3) (h07 : m0 0 7 = 75) {b : Int} (hb : zBl A b) : ∀ (q : Nat) (k : Int) (l : List Int) (t : qV) (m : Int → Int → Int) (kd : Int → Nat × Int) (n c s : Nat), k + q = 6 → 0 ≤ k → PgS l g0 m0 kd0 n0 c0 s0 m kd n c s → l.length + 14 * q ≤ 142 → ∃ t' m' kd' n' c' s', qa_ev P_X11_write 2 [(1, 0), (0, b), (1, 7 + 2 * b), (0, k), t] [] (m, kd, n, c, s) = qa_ev P_X11_write 2 [(1, 0), (0, b), (1, 7 + 2 * b), (0, 6), t'] [] (m', kd', n', c', s') ∧ PgS (l ++ tpf A b q k) g0 m0 kd0 n0 c0 s0 m' kd' n' c' s' ∧ (tpf A b q k).length ≤ 14 * q ∧ n ≤ n' ∧ c ≤ c' ∧ s ≤ s' := by
  intro q
  induction q with
  | zero =>
    intro k l t m kd n c s hk k0 h hl
    have : k = 6 := by omega
    subst this
    exact ⟨t, m, kd, n, c, s, rfl, by simp only [tpf, List.append_nil]; exact h, by simp [tpf], Nat.le_refl _, Nat.le_refl _, Nat.le_refl _⟩
  | succ q ih =>
    intro k l t m kd n c s hk k0 h hl
    have fr : ∀ x : Int, x < 75 → m x = m0 x ∧ kd x = kd0 x := fun x hx => h.at hx
    obtain ⟨x0, -, -⟩ := h.k hx h07
    have hK' : KS kd 3 := KS_keep hK (fun x a b => (fr x (by omega)).2) (by rw [(fr _ (by omega)).2]; exact hK.1)
    have ra : f_X9_readerAt [(1, 3), (0, k)] (m, kd, n, c, s) = some (.inl (some (1, if zRl A k then 15 + 3 * k else -1)), (m, kd, n, c, s)) := by
      have e : ∀ mm kk, mm 3 = m0 3 → mm 6 = m0 6 → (∀ r, 0 ≤ r → r < 6 → mm (15 + 3 * r) = m0 (15 + 3 * r)) → KS kk 3 → f_X9_readerAt [(1, 3), (0, k)] (mm, kk, n, c, s) = some (.inl (some (1, if zRl A k then 15 + 3 * k else -1)), (mm, kk, n, c, s)) := by
        intro mm kk a1 a2 a3 hKK
        have hl : 0 ≤ k ∧ k < 6 := ⟨k0, by omega⟩
        have f4 : mm 3 4 = 6 := by rw [a1]; exact hC.1.2.2.1
        have fW : mm 6 k = 15 + 3 * k := by rw [a2]; exact hC.1.2.2.2.2.1 k hl.1 hl.2
        have e0 : mm (15 + 3 * k) 0 = A.2.2.1 k 0 := by rw [a3 k hl.1 hl.2]; exact hC.2.2.2.2.2.1 k 0 hl.1 hl.2 (by decide) (by decide)
        have kS : kk 3 = (13, 0) := hKK.2.1
        have kW : kk 6 = (120, 6) := hKK.2.2.2.2.1
        have kR : kk (15 + 3 * k) = (10, 0) := hKK.2.2.2.2.2.2.2.1 k hl.1 hl.2
        have w01 := hW.2.2.2.2.1 k hl.1 hl.2
        rcases w01 with w01 | w01
        · rw [w01] at e0
          rw [if_neg (fun z => by have := z.2.2; omega)]
          unfold f_X9_readerAt
          refine qa_fn_eq ?_ (by simp)
          simp (disch := omega) [ev_X9_readerAt_0, ev_X9_readerAt_1, ev_X9_readerAt_2, ev_X9_readerAt_3, ev_X9_readerAt_4, B_X9_readerAt_0, B_X9_readerAt_1, B_X9_readerAt_2, B_X9_readerAt_3, B_X9_readerAt_4, x_const, x_iadd, x_isub, x_imul, x_idiv, x_irem, x_ineg, x_dup, x_dup_x1, x_dup2, x_pop, x_goto, x_ifeq, x_ifne, x_iflt, x_ifge, x_ifgt, x_ifle, x_cmpeq, x_cmpne, x_cmplt, x_cmpge, x_cmpgt, x_cmple, x_null, x_nonnull, x_acmpeq, x_acmpne, x_get, x_put, x_putz, x_ald, x_ast, x_bast, x_zast, x_aast, x_alen, x_obj, x_ret, x_retz, x_vret, x_max, x_min, x_copy, x_i2l, qg_none, qg_inl, qg_inr, qg_ite, xr1, xr0, xrE, xri, xl0, xl1, xl2, xl3, xl4, xl5, xl6, xl7, xl8, xl9, xl10, xs0, xs1, xs2, xs3, xs4, xs5, xs6, xs7, xs8, xs9, xs10, xi0, xi1, xi2, xi3, xi4, xi5, xi6, xi7, xi8, xi9, xi10, xc0, xc1, xc2, xc3, xc4, xc5, xc6, xc7, xv1, xv2, xv3, xv4, xv5, xv6, xv7, dT_le, dF_le, dT_lt, dF_lt, kS, kW, kR, f4, fW, e0]
        · rw [w01] at e0
          rw [if_pos ⟨hl.1, hl.2, w01⟩]
          unfold f_X9_readerAt
          refine qa_fn_eq ?_ (by simp)
          simp (disch := omega) [ev_X9_readerAt_0, ev_X9_readerAt_1, ev_X9_readerAt_2, ev_X9_readerAt_3, ev_X9_readerAt_4, B_X9_readerAt_0, B_X9_readerAt_1, B_X9_readerAt_2, B_X9_readerAt_3, B_X9_readerAt_4, x_const, x_iadd, x_isub, x_imul, x_idiv, x_irem, x_ineg, x_dup, x_dup_x1, x_dup2, x_pop, x_goto, x_ifeq, x_ifne, x_iflt, x_ifge, x_ifgt, x_ifle, x_cmpeq, x_cmpne, x_cmplt, x_cmpge, x_cmpgt, x_cmple, x_null, x_nonnull, x_acmpeq, x_acmpne, x_get, x_put, x_putz, x_ald, x_ast, x_bast, x_zast, x_aast, x_alen, x_obj, x_ret, x_retz, x_vret, x_max, x_min, x_copy, x_i2l, qg_none, qg_inl, qg_inr, qg_ite, xr1, xr0, xrE, xri, xl0, xl1, xl2, xl3, xl4, xl5, xl6, xl7, xl8, xl9, xl10, xs0, xs1, xs2, xs3, xs4, xs5, xs6, xs7, xs8, xs9, xs10, xi0, xi1, xi2, xi3, xi4, xi5, xi6, xi7, xi8, xi9, xi10, xc0, xc1, xc2, xc3, xc4, xc5, xc6, xc7, xv1, xv2, xv3, xv4, xv5, xv6, xv7, dT_le, dF_le, dT_lt, dF_lt, kS, kW, kR, f4, fW, e0]
      exact e m kd (fr 3 (by decide)).1 (fr 6 (by decide)).1 (fun r a b => (fr _ (by omega)).1) hK'
    have kb : kd (7 + 2 * b) = (6, 0) := hK'.2.2.2.2.2.1 b hb.1 hb.2.1
    have v0 : m (7 + 2 * b) 0 = b := by rw [(fr _ (by have := hb.2.1; omega)).1]; exact hC.1.2.2.2.2.2.1 b hb.1 hb.2.1
    have kr : kd (15 + 3 * k) = (10, 0) := hK'.2.2.2.2.2.2.2.1 k k0 (by omega)
    have r0 : m (15 + 3 * k) 0 = A.2.2.1 k 0 := by rw [(fr _ (by omega)).1]; exact hC.2.2.2.2.2.1 k 0 k0 (by omega) (by decide) (by decide)
    have r1 : m (15 + 3 * k) 1 = A.2.2.1 k 1 := by rw [(fr _ (by omega)).1]; exact hC.2.2.2.2.2.1 k 1 k0 (by omega) (by decide) (by decide)
    have k3 : kd 3 = (13, 0) := hK'.2.1
    have y1 : m 0 1 = 3 := by rw [(fr 0 (by decide)).1]; exact hn
    by_cases hin : zIn A k b
    · have hwr := hW.2.2.2.2.2.2.2.1 k hin.1.1 hin.1.2.1 hin.1.2.2
      unfold zWr at hwr
      rw [hin.2] at hwr
      have hwb := hW.2.2.2.2.2.1 b hb.1 hb.2.1 hb.2.2
      unfold zWb at hwb
      obtain ⟨m1, kd1, n1, c1, s1, e1, h1, o1⟩ := c_writeReader hK hC hx h07 hin.1 ⟨by omega, by omega⟩ ⟨by omega, by omega⟩ h (by omega)
      have tl := tpr_l (A := A) (r := k) (by omega) (by omega) (fun _ => by omega) (by omega)
      obtain ⟨t', m', kd', n', c', s', g1, g2, g3, g4⟩ := ih (k + 1) (l ++ tpr A k) (1, 15 + 3 * k) m1 kd1 n1 c1 s1 (by omega) (by omega) h1 (by rw [List.length_append]; omega)
      refine ⟨t', m', kd', n', c', s', (c_wL1 ⟨k0, by omega⟩ ⟨hb.1, hb.2.1⟩ x0 y1 k3 hK'.1 ra kb v0 kr r0 r1 hin e1).trans g1, ?_, ?_, by omega, by omega, by omega⟩
      · simp only [tpf]
        rw [if_pos hin, ← List.append_assoc]
        exact g2
      · simp only [tpf]
        rw [if_pos hin, List.length_append]
        omega
    · obtain ⟨t', m', kd', n', c', s', g1, g2, g3, g4⟩ := ih (k + 1) l (1, if zRl A k then 15 + 3 * k else -1) m kd n c s (by omega) (by omega) h (by omega)
      refine ⟨t', m', kd', n', c', s', (c_wL0 ⟨k0, by omega⟩ ⟨hb.1, hb.2.1⟩ x0 y1 k3 hK'.1 ra kb v0 kr r0 r1 hin).trans g1, ?_, ?_, g4⟩
      · simp only [tpf]
        rw [if_neg hin, List.nil_append]
        exact g2
      · simp only [tpf]
        rw [if_neg hin, List.nil_append]
        omega
theorem ca_write {A : zA} {M : Int} {l : List Int} {V cap : Int} {m : Int → Int → Int} {kd : Int → Nat × Int} {n c s : Nat} (hK : KS kd 3) (hC : RC A m kd 3) (hW : zW M A) (hT : A.1 0 < 99900) (hx : kd 0 = (14, 0)) (hn : m 0 1 = 3) (h07 : m 0 7 = 75) (hP : Pg l V cap m kd n) (b : Int) : (zBl A b → ∃ m' kd' n' c' s', f_X11_write [(1, 0), (0, b)] (m, kd, n, c, s) = some (.inl (some (0, ((tpg A b).length : Int))), (m', kd', n', c', s')) ∧ PgS (tpg A b) (zpg cap) m kd n c s m' kd' n' c' s' ∧ n ≤ n' ∧ c ≤ c' ∧ s ≤ s') ∧ (¬ zBl A b → f_X11_write [(1, 0), (0, b)] (m, kd, n, c, s) = some (.inr 1, (m, kd, n, c + 1, s + 6))) := by
  have nb := c_needBranch (w := (n, c, s)) hK hC hW hx hn b
  refine ⟨fun hb => ?_, fun hb => ?_⟩
  · rw [if_pos hb, show (3 : Int) + 4 + 2 * b = 7 + 2 * b by omega] at nb
    have hF : PgF (zpg cap) m kd n c s cap m kd n c s := ⟨fun _ _ => rfl, fun _ _ _ _ _ => rfl, Nat.le_refl _, Nat.le_refl _, Nat.le_refl _, Int.le_refl _, Int.le_refl _, hP.2.2.2.2.2.2.2.2.2.2.2.1⟩
    obtain ⟨m1, e1, P1, F1⟩ := c_setLen0 hP hF
    have h0 : PgS [] (zpg cap) m kd n c s m1 kd n c s := ⟨V, cap, P1, F1⟩
    have hb' := hb
    obtain ⟨b0, b4, b1⟩ := hb'
    have hwb := hW.2.2.2.2.2.1 b b0 b4 b1
    unfold zWb at hwb
    have a1 := tdg_1 (v := b) (by omega)
    have a2 := tdg_3 (v := A.2.1 b 4) (by omega)
    have a3 := tdg_3 (v := A.2.1 b 5) (by omega)
    obtain ⟨m2, kd2, n2, c2, s2, e2, h2, o2⟩ := h0.I (v := b) ⟨by omega, by omega⟩ (by simp)
    obtain ⟨m3, kd3, n3, c3, s3, e3, h3, o3⟩ := h2.C (ch := 58) (by decide) (by simp; omega)
    obtain ⟨m4, kd4, n4, c4, s4, e4, h4, o4⟩ := h3.I (v := A.2.1 b 4) ⟨by omega, by omega⟩ (by simp; omega)
    obtain ⟨m5, kd5, n5, c5, s5, e5, h5, o5⟩ := h4.C (ch := 45) (by decide) (by simp; omega)
    obtain ⟨m6, kd6, n6, c6, s6, e6, h6, o6⟩ := h5.I (v := A.2.1 b 5) ⟨by omega, by omega⟩ (by simp; omega)
    rw [List.nil_append] at h6 h5 h4 h3 h2
    obtain ⟨t', m', kd', n', c', s', g1, g2, g3, g4⟩ := c_wL hK hC hW hT hx hn h07 hb 6 0 _ (9, 0) m6 kd6 n6 c6 s6 (by omega) (by omega) h6 (by simp; omega)
    obtain ⟨x1, y1, z1⟩ := h0.k hx h07
    obtain ⟨x2, y2, z2⟩ := h2.k hx h07
    obtain ⟨x3, y3, z3⟩ := h3.k hx h07
    obtain ⟨x4, y4, z4⟩ := h4.k hx h07
    obtain ⟨x5, y5, z5⟩ := h5.k hx h07
    have k3 : kd3 (7 + 2 * b) = (6, 0) := by rw [(h3.at (by omega)).2]; exact hK.2.2.2.2.2.1 b b0 b4
    have k5 : kd5 (7 + 2 * b) = (6, 0) := by rw [(h5.at (by omega)).2]; exact hK.2.2.2.2.2.1 b b0 b4
    have v3 : m3 (7 + 2 * b) 4 = A.2.1 b 4 := by rw [(h3.at (by omega)).1]; exact hC.2.2.2.2.1 b 4 b0 b4 (by decide) (by decide)
    have v5 : m5 (7 + 2 * b) 5 = A.2.1 b 5 := by rw [(h5.at (by omega)).1]; exact hC.2.2.2.2.1 b 5 b0 b4 (by decide) (by decide)
    have E := c_wB0 nb ⟨b0, b4⟩ hx h07 hP.1 x1 y1 z1 x2 y2 z2 x3 y3 z3 x4 y4 z4 x5 y5 z5 e1 e2 e3 k3 v3 e4 e5 k5 v5 e6
    obtain ⟨V', cap', P', F'⟩ := id g2
    obtain ⟨x6, y6, z6⟩ := g2.k hx h07
    have ln := c_lenP (w := (n', c', s')) P'
    have E4 : qa_ev P_X11_write 2 [(1, 0), (0, b), (1, 7 + 2 * b), (0, 6), t'] [] (m', kd', n', c', s') = some (.inl (some (0, ((tpg A b).length : Int))), (m', kd', n', c', s')) := by
      have ln' : f_J4_length_8abf5 [(1, 75)] (m', kd', n', c', s') = some (.inl (some (0, ((tpg A b).length : Int))), (m', kd', n', c', s')) := ln
      generalize ((tpg A b).length : Int) = L at ln'
      rw [ev_X11_write_2]
      simp (disch := omega) [B_X11_write_2, ev_X11_write_4, B_X11_write_4, x_const, x_iadd, x_isub, x_imul, x_idiv, x_irem, x_ineg, x_dup, x_dup_x1, x_dup2, x_pop, x_goto, x_ifeq, x_ifne, x_iflt, x_ifge, x_ifgt, x_ifle, x_cmpeq, x_cmpne, x_cmplt, x_cmpge, x_cmpgt, x_cmple, x_null, x_nonnull, x_acmpeq, x_acmpne, x_get, x_put, x_putz, x_ald, x_ast, x_bast, x_zast, x_aast, x_alen, x_obj, x_ret, x_retz, x_vret, x_max, x_min, x_copy, x_i2l, qg_none, qg_inl, qg_inr, qg_ite, xr1, xr0, xrE, xri, xl0, xl1, xl2, xl3, xl4, xl5, xl6, xl7, xl8, xl9, xl10, xs0, xs1, xs2, xs3, xs4, xs5, xs6, xs7, xs8, xs9, xs10, xi0, xi1, xi2, xi3, xi4, xi5, xi6, xi7, xi8, xi9, xi10, xc0, xc1, xc2, xc3, xc4, xc5, xc6, xc7, xv1, xv2, xv3, xv4, xv5, xv6, xv7, dT_le, dF_le, dT_lt, dF_lt, x6, y6, z6, ln']
    exact ⟨m', kd', n', c', s', qa_fn_eq (E.trans (g1.trans E4)) (by simp; omega), g2, by omega, by omega, by omega⟩
  · rw [if_neg hb] at nb
    unfold f_X11_write
    refine qa_fn_eq ?_ (by simp)
    simp (disch := omega) [ev_X11_write_0, ev_X11_write_1, ev_X11_write_3, ev_X11_write_4, B_X11_write_0, B_X11_write_1, B_X11_write_2, B_X11_write_3, B_X11_write_4, x_const, x_iadd, x_isub, x_imul, x_idiv, x_irem, x_ineg, x_dup, x_dup_x1, x_dup2, x_pop, x_goto, x_ifeq, x_ifne, x_iflt, x_ifge, x_ifgt, x_ifle, x_cmpeq, x_cmpne, x_cmplt, x_cmpge, x_cmpgt, x_cmple, x_null, x_nonnull, x_acmpeq, x_acmpne, x_get, x_put, x_putz, x_ald, x_ast, x_bast, x_zast, x_aast, x_alen, x_obj, x_ret, x_retz, x_vret, x_max, x_min, x_copy, x_i2l, qg_none, qg_inl, qg_inr, qg_ite, xr1, xr0, xrE, xri, xl0, xl1, xl2, xl3, xl4, xl5, xl6, xl7, xl8, xl9, xl10, xs0, xs1, xs2, xs3, xs4, xs5, xs6, xs7, xs8, xs9, xs10, xi0, xi1, xi2, xi3, xi4, xi5, xi6, xi7, xi8, xi9, xi10, xc0, xc1, xc2, xc3, xc4, xc5, xc6, xc7, xv1, xv2, xv3, xv4, xv5, xv6, xv7, dT_le, dF_le, dT_lt, dF_lt, hx, nb]
