def cRef (q : Int) (m : Int → Int → Int) (kd : Int → Nat × Int) (w : Nat × Nat × Nat) (res : Option qR) : Prop := 1 ≤ q ∧ q ≤ 10 ∧ res = some (.inl (some (0, -10 - q)), (qa_up m 65 q (m 65 q + 1), kd, w))
def mRef (q : Int) (m : Int → Int → Int) (kd : Int → Nat × Int) (w : Nat × Nat × Nat) (res : Option qR) : Prop := 1 ≤ q ∧ q ≤ 10 ∧ res = some (.inl (some (0, -10 - q)), (qa_up m 84 q (m 84 q + 1), kd, w))
theorem ca_promise {m : Int → Int → Int} {kd : Int → Nat × Int} {n c s : Nat} {um S : Int} {U SV : Int → zA} {A : zA} {M : Int} (hS : CS um U SV A m kd n S) (hW : zW M A) (ha : ∀ i, 0 ≤ i → i ≤ 10 → 0 ≤ m 65 i ∧ m 65 i < 100000000) {st : Int → Int} (hy : CR st m kd 1 2) (hs : zS st) {r t : Int} (hr : zRl A r) (ht : 1 ≤ t ∧ t ≤ st 5) : (st 4 ≤ A.2.2.1 r 6 → cRef 3 m kd (n, c, s) (f_X11_promise [(1, 0), (0, r), (0, t)] (m, kd, n, c, s))) ∧ (A.2.2.1 r 6 < st 4 → A.2.2.1 r 4 ≠ -1 → cRef 4 m kd (n, c, s) (f_X11_promise [(1, 0), (0, r), (0, t)] (m, kd, n, c, s))) ∧ (A.2.2.1 r 6 < st 4 → A.2.2.1 r 4 = -1 → cDone um U SV A (zSetR A r 4 (A.1 0 + t)) (A.1 0 + t) m kd n c s S (f_X11_promise [(1, 0), (0, r), (0, t)] (m, kd, n, c, s))) := by
  obtain ⟨hK, hC, hx, hn, h4, k64, h00, k1, x640, x65⟩ := hS.f
  have ne := c_needReader (w := (n, c, s)) hK hC hW hx hn r
  rw [if_pos hr] at ne
  have v5 := c_valueOf (w := (n, c, s)) hy 5 (by decide)
  have v4 := c_valueOf (w := (n, c, s)) hy 4 (by decide)
  have rg := c_needRange (m := m) (kd := kd) (w := (n, c, s)) t 1 (st 5)
  rw [if_pos ht] at rg
  obtain ⟨q1, q2, q3⟩ := id hr
  obtain ⟨hs0, hs1⟩ := id hs
  have hk1 := hK.2.2.2.2.2.2.2.1 r q1 q2
  have hR6 := hC.2.2.2.2.2.1 r 6 q1 q2 (by decide) (by decide)
  have hR4 := hC.2.2.2.2.2.1 r 4 q1 q2 (by decide) (by decide)
  refine ⟨fun h => ?_, fun h h' => ?_, fun h h' => ?_⟩
  · have rf := c_refuse (w := (n, c, s)) (r := 3) k64 x640 x65 (by decide) (ha 3 (by decide) (by decide))
    refine ⟨by decide, by decide, ?_⟩
    unfold f_X11_promise
    refine qa_fn_eq ?_ (by simp)
    simp (disch := omega) [ev_X11_promise_0, ev_X11_promise_1, ev_X11_promise_2, B_X11_promise_0, B_X11_promise_1, B_X11_promise_2, x_const, x_iadd, x_isub, x_imul, x_idiv, x_irem, x_ineg, x_dup, x_dup_x1, x_dup2, x_pop, x_goto, x_ifeq, x_ifne, x_iflt, x_ifge, x_ifgt, x_ifle, x_cmpeq, x_cmpne, x_cmplt, x_cmpge, x_cmpgt, x_cmple, x_null, x_nonnull, x_acmpeq, x_acmpne, x_get, x_put, x_putz, x_ald, x_ast, x_bast, x_zast, x_aast, x_alen, x_obj, x_ret, x_retz, x_vret, x_max, x_min, x_copy, x_i2l, qg_none, qg_inl, qg_inr, qg_ite, xr1, xr0, xrE, xri, xl0, xl1, xl2, xl3, xl4, xl5, xl6, xl7, xl8, xl9, xl10, xs0, xs1, xs2, xs3, xs4, xs5, xs6, xs7, xs8, xs9, xs10, xi0, xi1, xi2, xi3, xi4, xi5, xi6, xi7, xi8, xi9, xi10, xc0, xc1, xc2, xc3, xc4, xc5, xc6, xc7, xv1, xv2, xv3, xv4, xv5, xv6, xv7, dT_le, dF_le, dT_lt, dF_lt, hx, h4, k64, h00, k1, ne, v5, v4, rg, hk1, hR6, rf]
  · have rf := c_refuse (w := (n, c, s)) (r := 4) k64 x640 x65 (by decide) (ha 4 (by decide) (by decide))
    refine ⟨by decide, by decide, ?_⟩
    unfold f_X11_promise
    refine qa_fn_eq ?_ (by simp)
    simp (disch := omega) [ev_X11_promise_0, ev_X11_promise_1, ev_X11_promise_2, B_X11_promise_0, B_X11_promise_1, B_X11_promise_2, x_const, x_iadd, x_isub, x_imul, x_idiv, x_irem, x_ineg, x_dup, x_dup_x1, x_dup2, x_pop, x_goto, x_ifeq, x_ifne, x_iflt, x_ifge, x_ifgt, x_ifle, x_cmpeq, x_cmpne, x_cmplt, x_cmpge, x_cmpgt, x_cmple, x_null, x_nonnull, x_acmpeq, x_acmpne, x_get, x_put, x_putz, x_ald, x_ast, x_bast, x_zast, x_aast, x_alen, x_obj, x_ret, x_retz, x_vret, x_max, x_min, x_copy, x_i2l, qg_none, qg_inl, qg_inr, qg_ite, xr1, xr0, xrE, xri, xl0, xl1, xl2, xl3, xl4, xl5, xl6, xl7, xl8, xl9, xl10, xs0, xs1, xs2, xs3, xs4, xs5, xs6, xs7, xs8, xs9, xs10, xi0, xi1, xi2, xi3, xi4, xi5, xi6, xi7, xi8, xi9, xi10, xc0, xc1, xc2, xc3, xc4, xc5, xc6, xc7, xv1, xv2, xv3, xv4, xv5, xv6, xv7, dT_le, dF_le, dT_lt, dF_lt, hx, h4, k64, h00, k1, ne, v5, v4, rg, hk1, hR6, hR4, h', rf]
  · obtain ⟨m1, kd1, n1, c1, s1, i1, i2, i3, i4, i5, i6, i7, i8, i9⟩ := c_begS (c := c) (s := s) hS hW (ha 0 (by decide) (by decide))
    obtain ⟨hK1, hC1, hx1, hn1, h41, k641, h001, k11, -⟩ := i2.f
    have tn := hW.tn
    have hC2 := RC_put1 (r := r) (j := 4) (v := A.1 0 + t) hK1 hC1 q1 q2 (by decide) (fun h => absurd h (by decide))
    have hfr : zfr m1 (qa_up m1 (S + 12 + 3 * r) 4 (A.1 0 + t)) S := fun x hx => by
      funext i
      exact qa_up_no _ (by omega)
    obtain ⟨g1, g2, g3, g4⟩ := CS_now i2 hfr hC2
    have hk2 := hK1.2.2.2.2.2.2.2.1 r q1 q2
    have kS := hK.2.1
    have kS1 := hK1.2.1
    have t0 : m1 S 0 = A.1 0 := hC1.2.1
    refine ⟨_, kd1, n1, c1, s1, ?_, g1, i3.trans g2, fun i => by rw [g3]; exact i4 i, by rw [g4]; omega, by rw [g4]; omega, i7, i8, i9⟩
    unfold f_X11_promise
    refine qa_fn_eq ?_ (by simp; exact ⟨i7, i8, i9⟩)
    simp (disch := omega) [ev_X11_promise_0, ev_X11_promise_1, ev_X11_promise_2, B_X11_promise_0, B_X11_promise_1, B_X11_promise_2, x_const, x_iadd, x_isub, x_imul, x_idiv, x_irem, x_ineg, x_dup, x_dup_x1, x_dup2, x_pop, x_goto, x_ifeq, x_ifne, x_iflt, x_ifge, x_ifgt, x_ifle, x_cmpeq, x_cmpne, x_cmplt, x_cmpge, x_cmpgt, x_cmple, x_null, x_nonnull, x_acmpeq, x_acmpne, x_get, x_put, x_putz, x_ald, x_ast, x_bast, x_zast, x_aast, x_alen, x_obj, x_ret, x_retz, x_vret, x_max, x_min, x_copy, x_i2l, qg_none, qg_inl, qg_inr, qg_ite, xr1, xr0, xrE, xri, xl0, xl1, xl2, xl3, xl4, xl5, xl6, xl7, xl8, xl9, xl10, xs0, xs1, xs2, xs3, xs4, xs5, xs6, xs7, xs8, xs9, xs10, xi0, xi1, xi2, xi3, xi4, xi5, xi6, xi7, xi8, xi9, xi10, xc0, xc1, xc2, xc3, xc4, xc5, xc6, xc7, xv1, xv2, xv3, xv4, xv5, xv6, xv7, dT_le, dF_le, dT_lt, dF_lt, dT_eq, dF_eq, qa_up_hit, qa_up_no, hx, hn, h4, k64, h00, k1, hx1, hn1, ne, v5, v4, rg, hk1, hR6, hR4, h', i1, hk2, kS, kS1, t0]
theorem ma_promise {m : Int → Int → Int} {kd : Int → Nat × Int} {w : Nat × Nat × Nat} {A : zA} (hK : KM kd) (hR : RM m) (hQ : QR A (m 79)) {M : Int} (hW : zW M A) {um : Int} {U : Int → zA} (hU : MU um U m) (hUW : ∀ k, 0 ≤ k → k < um → zW M (U k)) (ha : ∀ i, 0 ≤ i → i ≤ 10 → 0 ≤ m 84 i ∧ m 84 i < 100000000) {st : Int → Int} (hS : QS st m) (hs : zS st) {r t : Int} (hr : zRl A r) (ht : 1 ≤ t ∧ t ≤ st 5) : (st 4 ≤ A.2.2.1 r 6 → mRef 3 m kd w (f_X12_promises [(1, 77), (0, r), (0, t)] (m, kd, w))) ∧ (A.2.2.1 r 6 < st 4 → A.2.2.1 r 4 ≠ -1 → mRef 4 m kd w (f_X12_promises [(1, 77), (0, r), (0, t)] (m, kd, w))) ∧ (A.2.2.1 r 6 < st 4 → A.2.2.1 r 4 = -1 → mDone um U A (zSetR A r 4 (A.1 0 + t)) (A.1 0 + t) m kd w (f_X12_promises [(1, 77), (0, r), (0, t)] (m, kd, w))) := by
  obtain ⟨q1, q2, q3⟩ := id hr
  have s4 := hS 4 (by decide) (by decide)
  have rf3 := m_refuses (w := w) (r := 3) hK hR (by decide) (ha 3 (by decide) (by decide))
  have rf4 := m_refuses (w := w) (r := 4) hK hR (by decide) (ha 4 (by decide) (by decide))
  obtain ⟨m1, i1, i2, i3, i4, i5, i6, i7, i8⟩ := m_keeps (w := w) hK hR hQ hW hU hUW (ha 0 (by decide) (by decide))
  have hR1 := zfk_RM i3 hR
  have hQ1 : QR A (m1 79) := by rw [i4]; exact hQ
  have hQ2 := QR_put1 (r := r) (j := 4) (v := A.1 0 + t) hQ1 q1 q2 (by decide) (fun h => absurd h (by decide))
  have e6 : m 79 (34 + 26 * r + 6) = A.2.2.1 r 6 := hQ.2.2.2.2.2.2.1 r 6 q1 q2 q3 (by decide) (by decide)
  have e4 : m 79 (34 + 26 * r + 4) = A.2.2.1 r 4 := hQ.2.2.2.2.2.2.1 r 4 q1 q2 q3 (by decide) (by decide)
  have t0 : m1 79 0 = A.1 0 := hQ1.1
  have tn := hW.tn
  obtain ⟨hs0, hs1⟩ := id hs
  have z1 : m 77 1 = 78 := hR.1
  obtain ⟨k77, k78, k79, k80, k81, k82, k83, k84, k85, k86, k87, k88, k89, k90⟩ := id hK
  obtain ⟨r1, r2, r3, r4, r6, r7, r8, r12, r13, r15, r23, r25, r26⟩ := id hR1
  refine ⟨fun h => ⟨by decide, by decide, ?_⟩, fun h h' => ⟨by decide, by decide, ?_⟩, fun h h' => ?_⟩
  · unfold f_X12_promises
    refine qa_fn_eq ?_ (by simp)
    simp (disch := omega) [ev_X12_promises_0, ev_X12_promises_1, ev_X12_promises_2, ev_X12_promises_3, ev_X12_promises_4, B_X12_promises_0, B_X12_promises_1, B_X12_promises_2, B_X12_promises_3, B_X12_promises_4, x_const, x_iadd, x_isub, x_imul, x_idiv, x_irem, x_ineg, x_dup, x_dup_x1, x_dup2, x_pop, x_goto, x_ifeq, x_ifne, x_iflt, x_ifge, x_ifgt, x_ifle, x_cmpeq, x_cmpne, x_cmplt, x_cmpge, x_cmpgt, x_cmple, x_null, x_nonnull, x_acmpeq, x_acmpne, x_get, x_put, x_putz, x_ald, x_ast, x_bast, x_zast, x_aast, x_alen, x_obj, x_ret, x_retz, x_vret, x_max, x_min, x_copy, x_i2l, qg_none, qg_inl, qg_inr, qg_ite, xr1, xr0, xrE, xri, xl0, xl1, xl2, xl3, xl4, xl5, xl6, xl7, xl8, xl9, xl10, xs0, xs1, xs2, xs3, xs4, xs5, xs6, xs7, xs8, xs9, xs10, xi0, xi1, xi2, xi3, xi4, xi5, xi6, xi7, xi8, xi9, xi10, xc0, xc1, xc2, xc3, xc4, xc5, xc6, xc7, xv1, xv2, xv3, xv4, xv5, xv6, xv7, dT_le, dF_le, dT_lt, dF_lt, k77, k78, z1, m_ofReader hK hR, e6, s4, rf3]
  · unfold f_X12_promises
    refine qa_fn_eq ?_ (by simp)
    simp (disch := omega) [ev_X12_promises_0, ev_X12_promises_1, ev_X12_promises_2, ev_X12_promises_3, ev_X12_promises_4, B_X12_promises_0, B_X12_promises_1, B_X12_promises_2, B_X12_promises_3, B_X12_promises_4, x_const, x_iadd, x_isub, x_imul, x_idiv, x_irem, x_ineg, x_dup, x_dup_x1, x_dup2, x_pop, x_goto, x_ifeq, x_ifne, x_iflt, x_ifge, x_ifgt, x_ifle, x_cmpeq, x_cmpne, x_cmplt, x_cmpge, x_cmpgt, x_cmple, x_null, x_nonnull, x_acmpeq, x_acmpne, x_get, x_put, x_putz, x_ald, x_ast, x_bast, x_zast, x_aast, x_alen, x_obj, x_ret, x_retz, x_vret, x_max, x_min, x_copy, x_i2l, qg_none, qg_inl, qg_inr, qg_ite, xr1, xr0, xrE, xri, xl0, xl1, xl2, xl3, xl4, xl5, xl6, xl7, xl8, xl9, xl10, xs0, xs1, xs2, xs3, xs4, xs5, xs6, xs7, xs8, xs9, xs10, xi0, xi1, xi2, xi3, xi4, xi5, xi6, xi7, xi8, xi9, xi10, xc0, xc1, xc2, xc3, xc4, xc5, xc6, xc7, xv1, xv2, xv3, xv4, xv5, xv6, xv7, dT_le, dF_le, dT_lt, dF_lt, k77, k78, z1, m_ofReader hK hR, e6, e4, s4, h', rf4]
  · refine ⟨qa_up m1 79 (34 + 26 * r + 4) (A.1 0 + t), ?_, MU_79 i2, hQ2, zfk_79 i3, fun i => by rw [qa_up_no _ (by omega)]; exact i8 i, ?_, by rw [qa_up_no _ (by omega)]; exact i7 14 (by decide), fun X _ hX => zcb_same hX (fun i hi => by rw [qa_up_no _ (by omega)]; exact i7 i (by omega)) ?_⟩
    · unfold f_X12_promises
      refine qa_fn_eq ?_ (by simp)
      simp (disch := omega) [ev_X12_promises_0, ev_X12_promises_1, ev_X12_promises_2, ev_X12_promises_3, ev_X12_promises_4, B_X12_promises_0, B_X12_promises_1, B_X12_promises_2, B_X12_promises_3, B_X12_promises_4, x_const, x_iadd, x_isub, x_imul, x_idiv, x_irem, x_ineg, x_dup, x_dup_x1, x_dup2, x_pop, x_goto, x_ifeq, x_ifne, x_iflt, x_ifge, x_ifgt, x_ifle, x_cmpeq, x_cmpne, x_cmplt, x_cmpge, x_cmpgt, x_cmple, x_null, x_nonnull, x_acmpeq, x_acmpne, x_get, x_put, x_putz, x_ald, x_ast, x_bast, x_zast, x_aast, x_alen, x_obj, x_ret, x_retz, x_vret, x_max, x_min, x_copy, x_i2l, qg_none, qg_inl, qg_inr, qg_ite, xr1, xr0, xrE, xri, xl0, xl1, xl2, xl3, xl4, xl5, xl6, xl7, xl8, xl9, xl10, xs0, xs1, xs2, xs3, xs4, xs5, xs6, xs7, xs8, xs9, xs10, xi0, xi1, xi2, xi3, xi4, xi5, xi6, xi7, xi8, xi9, xi10, xc0, xc1, xc2, xc3, xc4, xc5, xc6, xc7, xv1, xv2, xv3, xv4, xv5, xv6, xv7, dT_le, dF_le, dT_lt, dF_lt, dT_eq, dF_eq, qa_up_hit, qa_up_no, k77, k78, k79, z1, r2, m_ofReader hK hR, e6, e4, s4, h', i1, m_readerAt, t0]
    · rw [← i6]
      funext i
      exact qa_up_no _ (by omega)
    · rw [← i5]
      funext i
      exact qa_up_no _ (by omega)
def zMove (A : zA) (r b : Int) : zA := zSetR (zSetR A r 1 b) r 3 (A.1 0)
theorem ca_move {m : Int → Int → Int} {kd : Int → Nat × Int} {n c s : Nat} {um S : Int} {U SV : Int → zA} {A : zA} {M : Int} (hS : CS um U SV A m kd n S) (hW : zW M A) (ha : ∀ i, 0 ≤ i → i ≤ 10 → 0 ≤ m 65 i ∧ m 65 i < 100000000) (hT : zT A) {r b : Int} (hr : zRl A r) (hb : zBl A b) : (A.2.2.1 r 1 = b ∨ zcommon A (A.2.2.1 r 1) b < A.2.2.1 r 2 ∨ A.2.2.1 r 2 < A.2.1 b 4 → cRef 5 m kd (n, c, s) (f_X11_move [(1, 0), (0, r), (0, b)] (m, kd, n, c, s))) ∧ (¬ (A.2.2.1 r 1 = b ∨ zcommon A (A.2.2.1 r 1) b < A.2.2.1 r 2 ∨ A.2.2.1 r 2 < A.2.1 b 4) → cDone um U SV A (zMove A r b) (A.2.2.1 r 2) m kd n c s S (f_X11_move [(1, 0), (0, r), (0, b)] (m, kd, n, c, s))) := by
  obtain ⟨hK, hC, hx, hn, h4, k64, h00, k1, x640, x65⟩ := hS.f
  have hS3 := hS.1
  have ne := c_needReader (w := (n, c, s)) hK hC hW hx hn r
  rw [if_pos hr] at ne
  have nb := c_needBranch (w := (n, c, s)) hK hC hW hx hn b
  rw [if_pos hb] at nb
  obtain ⟨q1, q2, q3⟩ := id hr
  obtain ⟨b1, b2, b3⟩ := id hb
  obtain ⟨t1, t2, t3, t4⟩ := hW.rn hr
  have hh : zBl A (A.2.2.1 r 1) := ⟨t1, t2, t3⟩
  have ho := c_homeOf (w := (n, c, s)) hK hC q1 q2 ⟨t1, t2⟩
  have hu := c_alikeUpTo (w := (n, c, s)) hK hC hW hT (by omega) hb hh
  have hk1 := hK.2.2.2.2.2.2.2.1 r q1 q2
  have hkb := hK.2.2.2.2.2.1 b b1 b2
  have hR2 := hC.2.2.2.2.2.1 r 2 q1 q2 (by decide) (by decide)
  have hB4 := hC.2.2.2.2.1 b 4 b1 b2 (by decide) (by decide)
  have kS := hK.2.1
  have rf := c_refuse (w := (n, c, s)) (r := 5) k64 x640 x65 (by decide) (ha 5 (by decide) (by decide))
  refine ⟨fun h => ⟨by decide, by decide, ?_⟩, fun h => ?_⟩
  · by_cases c1 : A.2.2.1 r 1 = b
    · rw [c1] at ho
      unfold f_X11_move
      refine qa_fn_eq ?_ (by simp)
      simp (disch := omega) [ev_X11_move_0, ev_X11_move_1, ev_X11_move_2, B_X11_move_0, B_X11_move_1, B_X11_move_2, x_const, x_iadd, x_isub, x_imul, x_idiv, x_irem, x_ineg, x_dup, x_dup_x1, x_dup2, x_pop, x_goto, x_ifeq, x_ifne, x_iflt, x_ifge, x_ifgt, x_ifle, x_cmpeq, x_cmpne, x_cmplt, x_cmpge, x_cmpgt, x_cmple, x_null, x_nonnull, x_acmpeq, x_acmpne, x_get, x_put, x_putz, x_ald, x_ast, x_bast, x_zast, x_aast, x_alen, x_obj, x_ret, x_retz, x_vret, x_max, x_min, x_copy, x_i2l, qg_none, qg_inl, qg_inr, qg_ite, xr1, xr0, xrE, xri, xl0, xl1, xl2, xl3, xl4, xl5, xl6, xl7, xl8, xl9, xl10, xs0, xs1, xs2, xs3, xs4, xs5, xs6, xs7, xs8, xs9, xs10, xi0, xi1, xi2, xi3, xi4, xi5, xi6, xi7, xi8, xi9, xi10, xc0, xc1, xc2, xc3, xc4, xc5, xc6, xc7, xv1, xv2, xv3, xv4, xv5, xv6, xv7, dT_le, dF_le, dT_lt, dF_lt, hx, hn, kS, h4, k64, ne, nb, ho, hk1, hR2, rf]
    · by_cases c2 : zcommon A (A.2.2.1 r 1) b < A.2.2.1 r 2
      · unfold f_X11_move
        refine qa_fn_eq ?_ (by simp)
        simp (disch := omega) [ev_X11_move_0, ev_X11_move_1, ev_X11_move_2, B_X11_move_0, B_X11_move_1, B_X11_move_2, x_const, x_iadd, x_isub, x_imul, x_idiv, x_irem, x_ineg, x_dup, x_dup_x1, x_dup2, x_pop, x_goto, x_ifeq, x_ifne, x_iflt, x_ifge, x_ifgt, x_ifle, x_cmpeq, x_cmpne, x_cmplt, x_cmpge, x_cmpgt, x_cmple, x_null, x_nonnull, x_acmpeq, x_acmpne, x_get, x_put, x_putz, x_ald, x_ast, x_bast, x_zast, x_aast, x_alen, x_obj, x_ret, x_retz, x_vret, x_max, x_min, x_copy, x_i2l, qg_none, qg_inl, qg_inr, qg_ite, xr1, xr0, xrE, xri, xl0, xl1, xl2, xl3, xl4, xl5, xl6, xl7, xl8, xl9, xl10, xs0, xs1, xs2, xs3, xs4, xs5, xs6, xs7, xs8, xs9, xs10, xi0, xi1, xi2, xi3, xi4, xi5, xi6, xi7, xi8, xi9, xi10, xc0, xc1, xc2, xc3, xc4, xc5, xc6, xc7, xv1, xv2, xv3, xv4, xv5, xv6, xv7, dT_le, dF_le, dT_lt, dF_lt, dF_eq, hx, hn, kS, h4, k64, ne, nb, ho, hu, hk1, hR2, c2, rf]
      · have c3 : A.2.2.1 r 2 < A.2.1 b 4 := by omega
        unfold f_X11_move
        refine qa_fn_eq ?_ (by simp)
        simp (disch := omega) [ev_X11_move_0, ev_X11_move_1, ev_X11_move_2, B_X11_move_0, B_X11_move_1, B_X11_move_2, x_const, x_iadd, x_isub, x_imul, x_idiv, x_irem, x_ineg, x_dup, x_dup_x1, x_dup2, x_pop, x_goto, x_ifeq, x_ifne, x_iflt, x_ifge, x_ifgt, x_ifle, x_cmpeq, x_cmpne, x_cmplt, x_cmpge, x_cmpgt, x_cmple, x_null, x_nonnull, x_acmpeq, x_acmpne, x_get, x_put, x_putz, x_ald, x_ast, x_bast, x_zast, x_aast, x_alen, x_obj, x_ret, x_retz, x_vret, x_max, x_min, x_copy, x_i2l, qg_none, qg_inl, qg_inr, qg_ite, xr1, xr0, xrE, xri, xl0, xl1, xl2, xl3, xl4, xl5, xl6, xl7, xl8, xl9, xl10, xs0, xs1, xs2, xs3, xs4, xs5, xs6, xs7, xs8, xs9, xs10, xi0, xi1, xi2, xi3, xi4, xi5, xi6, xi7, xi8, xi9, xi10, xc0, xc1, xc2, xc3, xc4, xc5, xc6, xc7, xv1, xv2, xv3, xv4, xv5, xv6, xv7, dT_le, dF_le, dT_lt, dF_lt, dF_eq, hx, hn, kS, h4, k64, ne, nb, ho, hu, hk1, hkb, hR2, hB4, c2, c3, rf]
  · obtain ⟨m1, kd1, n1, c1, s1, i1, i2, i3, i4, i5, i6, i7, i8, i9⟩ := c_begS (c := c) (s := s) hS hW (ha 0 (by decide) (by decide))
    obtain ⟨hK1, hC1, hx1, hn1, h41, k641, h001, k11, -⟩ := i2.f
    have d1 : ¬ A.2.2.1 r 1 = b := fun z => h (Or.inl z)
    have d2 : ¬ zcommon A (A.2.2.1 r 1) b < A.2.2.1 r 2 := fun z => h (Or.inr (Or.inl z))
    have d3 : ¬ A.2.2.1 r 2 < A.2.1 b 4 := fun z => h (Or.inr (Or.inr z))
    have hC2 := RC_put1 (r := r) (j := 1) (v := b) hK1 hC1 q1 q2 (by decide) (fun h => absurd h (by decide))
    have hC3 := RC_put1 (r := r) (j := 3) (v := A.1 0) hK1 hC2 q1 q2 (by decide) (fun h => absurd h (by decide))
    have hfr : zfr m1 (qa_up (qa_up m1 (S + 12 + 3 * r) 1 b) (S + 12 + 3 * r) 3 (A.1 0)) S := fun x hx => by
      funext i
      rw [qa_up_no _ (by omega), qa_up_no _ (by omega)]
    obtain ⟨g1, g2, g3, g4⟩ := CS_now i2 hfr hC3
    have hk2 := hK1.2.2.2.2.2.2.2.1 r q1 q2
    have hkb1 := hK1.2.2.2.2.2.1 b b1 b2
    have kS1 := hK1.2.1
    have t0 : m1 S 0 = A.1 0 := hC1.2.1
    have tb := hC1.1.2.2.2.2.2.1 b b1 b2
    have tr := hC1.2.2.2.2.2.1 r 2 q1 q2 (by decide) (by decide)
    refine ⟨_, kd1, n1, c1, s1, ?_, g1, i3.trans g2, fun i => by rw [g3]; exact i4 i, by rw [g4]; omega, by rw [g4]; omega, i7, i8, i9⟩
    unfold f_X11_move
    refine qa_fn_eq ?_ (by simp; exact ⟨i7, i8, i9⟩)
    simp (disch := omega) [ev_X11_move_0, ev_X11_move_1, ev_X11_move_2, B_X11_move_0, B_X11_move_1, B_X11_move_2, x_const, x_iadd, x_isub, x_imul, x_idiv, x_irem, x_ineg, x_dup, x_dup_x1, x_dup2, x_pop, x_goto, x_ifeq, x_ifne, x_iflt, x_ifge, x_ifgt, x_ifle, x_cmpeq, x_cmpne, x_cmplt, x_cmpge, x_cmpgt, x_cmple, x_null, x_nonnull, x_acmpeq, x_acmpne, x_get, x_put, x_putz, x_ald, x_ast, x_bast, x_zast, x_aast, x_alen, x_obj, x_ret, x_retz, x_vret, x_max, x_min, x_copy, x_i2l, qg_none, qg_inl, qg_inr, qg_ite, xr1, xr0, xrE, xri, xl0, xl1, xl2, xl3, xl4, xl5, xl6, xl7, xl8, xl9, xl10, xs0, xs1, xs2, xs3, xs4, xs5, xs6, xs7, xs8, xs9, xs10, xi0, xi1, xi2, xi3, xi4, xi5, xi6, xi7, xi8, xi9, xi10, xc0, xc1, xc2, xc3, xc4, xc5, xc6, xc7, xv1, xv2, xv3, xv4, xv5, xv6, xv7, dT_le, dF_le, dT_lt, dF_lt, dT_eq, dF_eq, qa_up_hit, qa_up_no, dF_eq, hx, hn, h4, k64, hx1, hn1, ne, nb, ho, hu, hk1, hkb, hR2, hB4, d1, d2, d3, i1, hk2, hkb1, kS, kS1, t0, tb, tr]
theorem ma_move {m : Int → Int → Int} {kd : Int → Nat × Int} {w : Nat × Nat × Nat} {A : zA} (hK : KM kd) (hR : RM m) (hQ : QR A (m 79)) {M : Int} (hW : zW M A) {um : Int} {U : Int → zA} (hU : MU um U m) (hUW : ∀ k, 0 ≤ k → k < um → zW M (U k)) (ha : ∀ i, 0 ≤ i → i ≤ 10 → 0 ≤ m 84 i ∧ m 84 i < 100000000) (hT : zT A) {r b : Int} (hr : zRl A r) (hb : zBl A b) : (A.2.2.1 r 1 = b ∨ zcommon A (A.2.2.1 r 1) b < A.2.2.1 r 2 ∨ A.2.2.1 r 2 < A.2.1 b 4 → mRef 5 m kd w (f_X12_moves [(1, 77), (0, r), (0, b)] (m, kd, w))) ∧ (¬ (A.2.2.1 r 1 = b ∨ zcommon A (A.2.2.1 r 1) b < A.2.2.1 r 2 ∨ A.2.2.1 r 2 < A.2.1 b 4) → mDone um U A (zMove A r b) (A.2.2.1 r 2) m kd w (f_X12_moves [(1, 77), (0, r), (0, b)] (m, kd, w))) := by
  obtain ⟨q1, q2, q3⟩ := id hr
  obtain ⟨b1, b2, b3⟩ := id hb
  obtain ⟨t1, t2, t3, t4⟩ := hW.rn hr
  have hh : zBl A (A.2.2.1 r 1) := ⟨t1, t2, t3⟩
  have hu := m_commonOf (w := w) hK hR hQ hW hT hb hh
  have rf := m_refuses (w := w) (r := 5) hK hR (by decide) (ha 5 (by decide) (by decide))
  obtain ⟨m1, i1, i2, i3, i4, i5, i6, i7, i8⟩ := m_keeps (w := w) hK hR hQ hW hU hUW (ha 0 (by decide) (by decide))
  have hR1 := zfk_RM i3 hR
  have hQ1 : QR A (m1 79) := by rw [i4]; exact hQ
  have hQ2 := QR_put1 (r := r) (j := 1) (v := b) hQ1 q1 q2 (by decide) (fun h => absurd h (by decide))
  have hQ3 := QR_put1 (m := qa_up m1 79 (34 + 26 * r + 1) b) (r := r) (j := 3) (v := A.1 0) hQ2 q1 q2 (by decide) (fun h => absurd h (by decide))
  have e1 : m 79 (34 + 26 * r + 1) = A.2.2.1 r 1 := hQ.2.2.2.2.2.2.1 r 1 q1 q2 q3 (by decide) (by decide)
  have e2 : m 79 (34 + 26 * r + 2) = A.2.2.1 r 2 := hQ.2.2.2.2.2.2.1 r 2 q1 q2 q3 (by decide) (by decide)
  have u1 := (hQ.2.2.2.2.1 b b1 b2 b3).1
  have t0 : m1 79 0 = A.1 0 := hQ1.1
  obtain ⟨k77, k78, k79, k80, k81, k82, k83, k84, k85, k86, k87, k88, k89, k90⟩ := id hK
  obtain ⟨r1, r2, r3, r4, r6, r7, r8, r12, r13, r15, r23, r25, r26⟩ := id hR1
  refine ⟨fun h => ⟨by decide, by decide, ?_⟩, fun h => ?_⟩
  · by_cases c1 : A.2.2.1 r 1 = b
    · unfold f_X12_moves
      refine qa_fn_eq ?_ (by simp)
      simp (disch := omega) [ev_X12_moves_0, ev_X12_moves_1, ev_X12_moves_2, B_X12_moves_0, B_X12_moves_1, B_X12_moves_2, x_const, x_iadd, x_isub, x_imul, x_idiv, x_irem, x_ineg, x_dup, x_dup_x1, x_dup2, x_pop, x_goto, x_ifeq, x_ifne, x_iflt, x_ifge, x_ifgt, x_ifle, x_cmpeq, x_cmpne, x_cmplt, x_cmpge, x_cmpgt, x_cmple, x_null, x_nonnull, x_acmpeq, x_acmpne, x_get, x_put, x_putz, x_ald, x_ast, x_bast, x_zast, x_aast, x_alen, x_obj, x_ret, x_retz, x_vret, x_max, x_min, x_copy, x_i2l, qg_none, qg_inl, qg_inr, qg_ite, xr1, xr0, xrE, xri, xl0, xl1, xl2, xl3, xl4, xl5, xl6, xl7, xl8, xl9, xl10, xs0, xs1, xs2, xs3, xs4, xs5, xs6, xs7, xs8, xs9, xs10, xi0, xi1, xi2, xi3, xi4, xi5, xi6, xi7, xi8, xi9, xi10, xc0, xc1, xc2, xc3, xc4, xc5, xc6, xc7, xv1, xv2, xv3, xv4, xv5, xv6, xv7, dT_le, dF_le, dT_lt, dF_lt, k77, m_ofReader hK hR, e1, e2, c1, rf]
    · by_cases c2 : zcommon A (A.2.2.1 r 1) b < A.2.2.1 r 2
      · unfold f_X12_moves
        refine qa_fn_eq ?_ (by simp)
        simp (disch := omega) [ev_X12_moves_0, ev_X12_moves_1, ev_X12_moves_2, B_X12_moves_0, B_X12_moves_1, B_X12_moves_2, x_const, x_iadd, x_isub, x_imul, x_idiv, x_irem, x_ineg, x_dup, x_dup_x1, x_dup2, x_pop, x_goto, x_ifeq, x_ifne, x_iflt, x_ifge, x_ifgt, x_ifle, x_cmpeq, x_cmpne, x_cmplt, x_cmpge, x_cmpgt, x_cmple, x_null, x_nonnull, x_acmpeq, x_acmpne, x_get, x_put, x_putz, x_ald, x_ast, x_bast, x_zast, x_aast, x_alen, x_obj, x_ret, x_retz, x_vret, x_max, x_min, x_copy, x_i2l, qg_none, qg_inl, qg_inr, qg_ite, xr1, xr0, xrE, xri, xl0, xl1, xl2, xl3, xl4, xl5, xl6, xl7, xl8, xl9, xl10, xs0, xs1, xs2, xs3, xs4, xs5, xs6, xs7, xs8, xs9, xs10, xi0, xi1, xi2, xi3, xi4, xi5, xi6, xi7, xi8, xi9, xi10, xc0, xc1, xc2, xc3, xc4, xc5, xc6, xc7, xv1, xv2, xv3, xv4, xv5, xv6, xv7, dT_le, dF_le, dT_lt, dF_lt, k77, m_ofReader hK hR, e1, e2, c1, hu, c2, rf]
      · have c3 : A.2.2.1 r 2 < A.2.1 b 4 := by omega
        unfold f_X12_moves
        refine qa_fn_eq ?_ (by simp)
        simp (disch := omega) [ev_X12_moves_0, ev_X12_moves_1, ev_X12_moves_2, B_X12_moves_0, B_X12_moves_1, B_X12_moves_2, x_const, x_iadd, x_isub, x_imul, x_idiv, x_irem, x_ineg, x_dup, x_dup_x1, x_dup2, x_pop, x_goto, x_ifeq, x_ifne, x_iflt, x_ifge, x_ifgt, x_ifle, x_cmpeq, x_cmpne, x_cmplt, x_cmpge, x_cmpgt, x_cmple, x_null, x_nonnull, x_acmpeq, x_acmpne, x_get, x_put, x_putz, x_ald, x_ast, x_bast, x_zast, x_aast, x_alen, x_obj, x_ret, x_retz, x_vret, x_max, x_min, x_copy, x_i2l, qg_none, qg_inl, qg_inr, qg_ite, xr1, xr0, xrE, xri, xl0, xl1, xl2, xl3, xl4, xl5, xl6, xl7, xl8, xl9, xl10, xs0, xs1, xs2, xs3, xs4, xs5, xs6, xs7, xs8, xs9, xs10, xi0, xi1, xi2, xi3, xi4, xi5, xi6, xi7, xi8, xi9, xi10, xc0, xc1, xc2, xc3, xc4, xc5, xc6, xc7, xv1, xv2, xv3, xv4, xv5, xv6, xv7, dT_le, dF_le, dT_lt, dF_lt, k77, m_ofReader hK hR, m_ofBranch hK hR, e1, e2, u1, c1, hu, c2, c3, rf]
  · have c1 : ¬ A.2.2.1 r 1 = b := fun z => h (Or.inl z)
    have c2 : ¬ zcommon A (A.2.2.1 r 1) b < A.2.2.1 r 2 := fun z => h (Or.inr (Or.inl z))
    have c3 : ¬ A.2.2.1 r 2 < A.2.1 b 4 := fun z => h (Or.inr (Or.inr z))
    refine ⟨qa_up (qa_up m1 79 (34 + 26 * r + 1) b) 79 (34 + 26 * r + 3) (A.1 0), ?_, MU_79 (MU_79 i2), hQ3, zfk_79 (zfk_79 i3), fun i => by rw [qa_up_no _ (by omega), qa_up_no _ (by omega)]; exact i8 i, ?_, by rw [qa_up_no _ (by omega), qa_up_no _ (by omega)]; exact i7 14 (by decide), fun X _ hX => zcb_same hX (fun i hi => by rw [qa_up_no _ (by omega), qa_up_no _ (by omega)]; exact i7 i (by omega)) ?_⟩
    · unfold f_X12_moves
      refine qa_fn_eq ?_ (by simp)
      simp (disch := omega) [ev_X12_moves_0, ev_X12_moves_1, ev_X12_moves_2, B_X12_moves_0, B_X12_moves_1, B_X12_moves_2, x_const, x_iadd, x_isub, x_imul, x_idiv, x_irem, x_ineg, x_dup, x_dup_x1, x_dup2, x_pop, x_goto, x_ifeq, x_ifne, x_iflt, x_ifge, x_ifgt, x_ifle, x_cmpeq, x_cmpne, x_cmplt, x_cmpge, x_cmpgt, x_cmple, x_null, x_nonnull, x_acmpeq, x_acmpne, x_get, x_put, x_putz, x_ald, x_ast, x_bast, x_zast, x_aast, x_alen, x_obj, x_ret, x_retz, x_vret, x_max, x_min, x_copy, x_i2l, qg_none, qg_inl, qg_inr, qg_ite, xr1, xr0, xrE, xri, xl0, xl1, xl2, xl3, xl4, xl5, xl6, xl7, xl8, xl9, xl10, xs0, xs1, xs2, xs3, xs4, xs5, xs6, xs7, xs8, xs9, xs10, xi0, xi1, xi2, xi3, xi4, xi5, xi6, xi7, xi8, xi9, xi10, xc0, xc1, xc2, xc3, xc4, xc5, xc6, xc7, xv1, xv2, xv3, xv4, xv5, xv6, xv7, dT_le, dF_le, dT_lt, dF_lt, dT_eq, dF_eq, qa_up_hit, qa_up_no, k77, k79, r2, m_ofReader hK hR, m_ofBranch hK hR, e1, e2, u1, c1, hu, c2, c3, i1, m_readerAt, t0]
    · rw [← i6]
      funext i
      rw [qa_up_no _ (by omega), qa_up_no _ (by omega)]
    · rw [← i5]
      funext i
      rw [qa_up_no _ (by omega), qa_up_no _ (by omega)]
