theorem ca_pass {m : Int → Int → Int} {kd : Int → Nat × Int} {n c s : Nat} {um S : Int} {U SV : Int → zA} {A : zA} {M : Int} (hS : CS um U SV A m kd n S) (hW : zW M A) (ha : ∀ i, 0 ≤ i → i ≤ 10 → 0 ≤ m 65 i ∧ m 65 i < 100000000) {st : Int → Int} (hcr : CR st m kd 1 2) (hs : zS st) {t : Int} (ht : 1 ≤ t ∧ t ≤ 99) (hM : M < 500000) (h0 : A.1 0 + 99 ≤ 1000000) : cDone um U SV A (zTicks st t.toNat A) (zgs (zTicks st t.toNat A) - zgs A) m kd n c s S (f_X11_pass [(1, 0), (0, t)] (m, kd, n, c, s)) := by
  obtain ⟨hK, hC, hx, hn, h4, k64, h00, k1, x640, x65⟩ := hS.f
  have hS3 := hS.1
  have rg := c_needRange (m := m) (kd := kd) (w := (n, c, s)) t 1 99
  rw [if_pos ht] at rg
  obtain ⟨m1, kd1, n1, c1, s1, i1, i2, i3, i4, i5, i6, i7, i8, i9⟩ := c_begS (c := c) (s := s) hS hW (ha 0 (by decide) (by decide))
  obtain ⟨hK1, hC1, hx1, hn1, h41, k641, h001, k11, -⟩ := i2.f
  have hcr1 := zfx_CR i3 hcr
  have kS := hK1.2.1
  have kS0 := hK.2.1
  have hgs := hW.gs
  have loop : ∀ (q k : Nat) (m' : Int → Int → Int), (k : Int) + q = t → RC (zTicks st k A) m' kd1 S → zfr m1 m' S → ∃ m'', qa_ev P_X11_pass 1 [(1, 0), (0, t), (0, zgs (zTicks st k A) - zgs A), (0, k)] [] (m', kd1, n1, c1, s1) = some (.inl (some (0, zgs (zTicks st t.toNat A) - zgs A)), (m'', kd1, n1, c1, s1)) ∧ RC (zTicks st t.toNat A) m'' kd1 S ∧ zfr m1 m'' S := by
    intro q
    induction q with
    | zero =>
      intro k m' h1 hC' hf
      have ek : t.toNat = k := by omega
      rw [ek]
      have et : t = (k : Int) := by omega
      refine ⟨m', ?_, hC', hf⟩
      rw [ev_X11_pass_1, et]
      generalize (k : Int) = kk
      simp (disch := omega) [ev_X11_pass_0, ev_X11_pass_2, B_X11_pass_0, B_X11_pass_1, B_X11_pass_2, x_const, x_iadd, x_isub, x_imul, x_idiv, x_irem, x_ineg, x_dup, x_dup_x1, x_dup2, x_pop, x_goto, x_ifeq, x_ifne, x_iflt, x_ifge, x_ifgt, x_ifle, x_cmpeq, x_cmpne, x_cmplt, x_cmpge, x_cmpgt, x_cmple, x_null, x_nonnull, x_acmpeq, x_acmpne, x_get, x_put, x_putz, x_ald, x_ast, x_bast, x_zast, x_aast, x_alen, x_obj, x_ret, x_retz, x_vret, x_max, x_min, x_copy, x_i2l, qg_none, qg_inl, qg_inr, qg_ite, xr1, xr0, xrE, xri, xl0, xl1, xl2, xl3, xl4, xl5, xl6, xl7, xl8, xl9, xl10, xs0, xs1, xs2, xs3, xs4, xs5, xs6, xs7, xs8, xs9, xs10, xi0, xi1, xi2, xi3, xi4, xi5, xi6, xi7, xi8, xi9, xi10, xc0, xc1, xc2, xc3, xc4, xc5, xc6, xc7, xv1, xv2, xv3, xv4, xv5, xv6, xv7, dT_le, dF_le, dT_lt, dF_lt]
    | succ q ih =>
      intro k m' h1 hC' hf
      obtain ⟨w1, w2, w3⟩ := zW_ticks st hW k (by omega)
      have hcr' : CR st m' kd1 1 2 := by
        obtain ⟨y1, y2, y3, y4⟩ := hcr1
        exact ⟨y1, by rw [hf 1 (by omega)]; exact y2, y3, fun i q1 q2 => by rw [hf 2 (by omega)]; exact y4 i q1 q2⟩
      obtain ⟨m2, j1, j2, j3⟩ := c_tick (w := (n1, c1, s1)) hK1 hC' w1 hM (by rw [w3]; omega) hcr' hs ⟨Or.inl (by omega), Or.inl (by omega)⟩
      obtain ⟨m3, g1, g2, g3⟩ := ih (k + 1) m2 (by omega) j2 (hf.trans j3)
      refine ⟨m3, ?_, g2, g3⟩
      have h00' : m' 0 0 = 1 := by rw [hf 0 (by omega)]; exact h001
      have h01' : m' 0 1 = S := by rw [hf 0 (by omega)]; exact hn1
      have w4 := (zW_tick st w1 (by rw [w3]; omega)).1.gs
      have w1g := w1.gs
      have et : zTicks st (k + 1) A = zTick st (zTicks st k A) := rfl
      have ek : ((k + 1 : Nat) : Int) = (k : Int) + 1 := by omega
      rw [et, ek] at g1
      have hb1 : (k : Int) < t ∧ 0 ≤ (k : Int) := by omega
      generalize (k : Int) = kk at hb1 g1 ⊢
      generalize zgs (zTick st (zTicks st k A)) = ga at j1 g1 w4
      generalize zgs (zTicks st k A) = gb at j1 g1 w1g ⊢
      have es : ga - zgs A = gb - zgs A + (ga - gb) := by omega
      rw [es] at g1
      rw [ev_X11_pass_1]
      simp (disch := omega) [ev_X11_pass_0, ev_X11_pass_2, B_X11_pass_0, B_X11_pass_1, B_X11_pass_2, x_const, x_iadd, x_isub, x_imul, x_idiv, x_irem, x_ineg, x_dup, x_dup_x1, x_dup2, x_pop, x_goto, x_ifeq, x_ifne, x_iflt, x_ifge, x_ifgt, x_ifle, x_cmpeq, x_cmpne, x_cmplt, x_cmpge, x_cmpgt, x_cmple, x_null, x_nonnull, x_acmpeq, x_acmpne, x_get, x_put, x_putz, x_ald, x_ast, x_bast, x_zast, x_aast, x_alen, x_obj, x_ret, x_retz, x_vret, x_max, x_min, x_copy, x_i2l, qg_none, qg_inl, qg_inr, qg_ite, xr1, xr0, xrE, xri, xl0, xl1, xl2, xl3, xl4, xl5, xl6, xl7, xl8, xl9, xl10, xs0, xs1, xs2, xs3, xs4, xs5, xs6, xs7, xs8, xs9, xs10, xi0, xi1, xi2, xi3, xi4, xi5, xi6, xi7, xi8, xi9, xi10, xc0, xc1, xc2, xc3, xc4, xc5, xc6, xc7, xv1, xv2, xv3, xv4, xv5, xv6, xv7, dT_le, dF_le, dT_lt, dF_lt, hx1, kS, h00', h01', j1, g1]
  obtain ⟨m2, j1, j2, j3⟩ := loop t.toNat 0 m1 (by omega) hC1 (zfr.refl _ _)
  obtain ⟨g1, g2, g3, g4⟩ := CS_now i2 j3 j2
  refine ⟨m2, kd1, n1, c1, s1, ?_, g1, i3.trans g2, fun i => by rw [g3]; exact i4 i, by rw [g4]; omega, by rw [g4]; omega, i7, i8, i9⟩
  have e0 : zgs (zTicks st 0 A) - zgs A = 0 := by show zgs A - zgs A = 0; omega
  rw [e0] at j1
  simp only [Int.natCast_zero] at j1
  unfold f_X11_pass
  refine qa_fn_eq ?_ (by simp; exact ⟨i7, i8, i9⟩)
  simp (disch := omega) [ev_X11_pass_0, ev_X11_pass_2, B_X11_pass_0, B_X11_pass_1, B_X11_pass_2, x_const, x_iadd, x_isub, x_imul, x_idiv, x_irem, x_ineg, x_dup, x_dup_x1, x_dup2, x_pop, x_goto, x_ifeq, x_ifne, x_iflt, x_ifge, x_ifgt, x_ifle, x_cmpeq, x_cmpne, x_cmplt, x_cmpge, x_cmpgt, x_cmple, x_null, x_nonnull, x_acmpeq, x_acmpne, x_get, x_put, x_putz, x_ald, x_ast, x_bast, x_zast, x_aast, x_alen, x_obj, x_ret, x_retz, x_vret, x_max, x_min, x_copy, x_i2l, qg_none, qg_inl, qg_inr, qg_ite, xr1, xr0, xrE, xri, xl0, xl1, xl2, xl3, xl4, xl5, xl6, xl7, xl8, xl9, xl10, xs0, xs1, xs2, xs3, xs4, xs5, xs6, xs7, xs8, xs9, xs10, xi0, xi1, xi2, xi3, xi4, xi5, xi6, xi7, xi8, xi9, xi10, xc0, xc1, xc2, xc3, xc4, xc5, xc6, xc7, xv1, xv2, xv3, xv4, xv5, xv6, xv7, dT_le, dF_le, dT_lt, dF_lt, hx, hn, h4, k64, kS0, rg, i1, j1]
