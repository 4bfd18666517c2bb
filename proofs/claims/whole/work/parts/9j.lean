theorem m_readRest1 {m : Int → Int → Int} {kd : Int → Nat × Int} {w : Nat × Nat × Nat} (hK : KM kd) (hR : RM m) {T : Int → Int} {n its a : Int} (hT : MTx T n m) (hW : MWo m) (hs : MSt T n (0, a) m) (ha : 0 ≤ a ∧ a ≤ n) (hi : 0 ≤ its ∧ its ≤ 295) : mRst T n 1 its a m kd w (f_X12_readRest [(1, 77), (0, its), (0, 1)] (m, kd, w)) := by
  have k77 := hK.1
  have k89 := hK.2.2.2.2.2.2.2.2.2.2.2.2.1
  have t0 : tTS n (0, a) := ⟨fun _ => ha, show (0 : Int) ≤ 0 by decide, show (0 : Int) ≤ 3 by decide⟩
  obtain ⟨mp1, v0, g0, f0, x0, y0, z0⟩ := m_takes (w := w) (l := 98) hK hR hT hs t0.1 t0.2 (by unfold tLt; decide) (by decide) (by decide)
  simp only [show tLo 98 = 0 from rfl, show tHi 98 = 3 from rfl] at g0
  have t1 := tOp_S (T := T) (l := 98) t0
  have r25_0 : m 77 25 = 89 := hR.2.2.2.2.2.2.2.2.2.2.2.1
  obtain ⟨hR1, hT1, hW1, hs1, o1, p1, c1⟩ := m_stage (p := its + 1) (v := v0) hR hT hW f0 x0
  generalize hq1 : qa_up mp1 89 (its + 1) v0 = mq1 at hR1 hT1 hW1 hs1 o1 p1 c1
  have r25_1 : mq1 77 25 = 89 := hR1.2.2.2.2.2.2.2.2.2.2.2.1
  have st : ∀ x, RM (qa_up mq1 89 (its + 2) x) ∧ MTx T n (qa_up mq1 89 (its + 2) x) ∧ MSt T n (tOp T n 98 (0, a)) (qa_up mq1 89 (its + 2) x) ∧ (∀ c, c ≠ 77 → c ≠ 89 → qa_up mq1 89 (its + 2) x c = m c) ∧ (∀ i, (i < 17 ∨ 22 < i) → qa_up mq1 89 (its + 2) x 77 i = m 77 i) ∧ ∀ i, qa_up mq1 89 (its + 2) x 89 i = if i = its + 2 then x else if i = its + 1 then v0 else m 89 i := fun x => by
    obtain ⟨q1, q2, q3, q4, q5, q6, q7⟩ := m_stage (p := its + 2) (v := x) hR1 hT1 hW1 (zfp.refl mq1) hs1
    exact ⟨q1, q2, q4, fun c c1' c2 => by rw [q5 c c1' c2, o1 c c1' c2], fun i hi => by rw [q6 i hi, p1 i hi], fun i => by rw [q7, c1]⟩
  have val : ∀ j : Nat, j < (tLe 1).length → j = 0 ∨ j = 1 := fun j hj => by have : (tLe 1).length = 2 := rfl; omega
  have rd : ∀ x, qa_up mq1 89 (its + 2) x 77 25 = 89 := fun x => (st x).1.2.2.2.2.2.2.2.2.2.2.2.1
  have rx : ∀ x, qa_up mq1 89 (its + 2) x 89 (its + 2) = x := fun x => qa_up_hit _ _ _ _
  by_cases e1 : (tOp T n 98 (0, a)).1 = 0
  · obtain ⟨-, -, q0⟩ := tOp_0 e1
    obtain ⟨s1, s2, s3⟩ := id hs1
    obtain ⟨hL1, h22⟩ := s2 e1
    have ha1 := t1.1 e1
    have h21 : mq1 77 21 = 0 := by rw [s1, e1]
    have wh := m_wordHere (w := w) hK hR1 hT1 hW1 hL1 ha1
    obtain ⟨w1, -, -⟩ := tvf_11 T n (tOp T n 98 (0, a)).2
    rcases tIs_01 T n (tOp T n 98 (0, a)).2 (tWl 10) with hc | hc
    · have hne : ¬ tvf T n (tOp T n 98 (0, a)).2 11 0 = 10 := fun z => by rw [w1.mp z] at hc; omega
      obtain ⟨b1, b2, b3, b4, b5, b6⟩ := st 0
      have e101 : tOp T n 101 (tOp T n 98 (0, a)) = tOp T n 98 (0, a) := by
        rw [q0]
        rw [q0] at hc
        unfold tOp
        rw [if_neg (fun z => z rfl)]
        have : tOc T n (tOa T n ((0 : Int), a).2 98) 101 = 0 := if_pos rfl
        rw [if_pos this]
        unfold tOa
        rw [if_pos rfl, if_neg (by rw [show (if (98 : Int) = 101 then if tIs T n ((0 : Int), a).2 (tWl 10) = 1 then tBe T n ((0 : Int), a).2 else ((0 : Int), a).2 else tBe T n (tNa T n ((0 : Int), a).2 98)) = tOa T n ((0 : Int), a).2 98 from rfl]; dsimp only at hc ⊢; omega)]
      refine ⟨qa_up mq1 89 (its + 2) 0, ?_, b4, b5, ?_, fun j hj => by rw [b6, if_neg (by omega), if_neg (by omega)], fun hz j hj => ?_⟩
      · have rx0 := rx 0
        have rd0 := rd 0
        unfold f_X12_readRest
        refine qa_fn_eq ?_ (by simp)
        simp (disch := omega) [ev_X12_readRest_0, ev_X12_readRest_1, ev_X12_readRest_2, ev_X12_readRest_3, ev_X12_readRest_4, ev_X12_readRest_5, ev_X12_readRest_6, ev_X12_readRest_7, ev_X12_readRest_8, ev_X12_readRest_9, ev_X12_readRest_10, ev_X12_readRest_11, ev_X12_readRest_12, ev_X12_readRest_13, ev_X12_readRest_14, B_X12_readRest_0, B_X12_readRest_1, B_X12_readRest_2, B_X12_readRest_3, B_X12_readRest_4, B_X12_readRest_5, B_X12_readRest_6, B_X12_readRest_7, B_X12_readRest_8, B_X12_readRest_9, B_X12_readRest_10, B_X12_readRest_11, B_X12_readRest_12, B_X12_readRest_13, B_X12_readRest_14, x_const, x_iadd, x_isub, x_imul, x_idiv, x_irem, x_ineg, x_dup, x_dup_x1, x_dup2, x_pop, x_goto, x_ifeq, x_ifne, x_iflt, x_ifge, x_ifgt, x_ifle, x_cmpeq, x_cmpne, x_cmplt, x_cmpge, x_cmpgt, x_cmple, x_null, x_nonnull, x_acmpeq, x_acmpne, x_get, x_put, x_putz, x_ald, x_ast, x_bast, x_zast, x_aast, x_alen, x_obj, x_ret, x_retz, x_vret, x_max, x_min, x_copy, x_i2l, qg_none, qg_inl, qg_inr, qg_ite, xr1, xr0, xrE, xri, xl0, xl1, xl2, xl3, xl4, xl5, xl6, xl7, xl8, xl9, xl10, xs0, xs1, xs2, xs3, xs4, xs5, xs6, xs7, xs8, xs9, xs10, xi0, xi1, xi2, xi3, xi4, xi5, xi6, xi7, xi8, xi9, xi10, xc0, xc1, xc2, xc3, xc4, xc5, xc6, xc7, xv1, xv2, xv3, xv4, xv5, xv6, xv7, dT_le, dF_le, dT_lt, dF_lt, dF_eq, x_switch, zsw, k77, k89, r25_0, g0, hq1, r25_1, h21, wh, hne, rd0, rx0]
      · show MSt T n (tOp T n 101 (tOp T n 98 (0, a))) _
        rw [e101]; exact b3
      · rcases val j hj with rfl | rfl
        · rw [b6, if_neg (by omega), if_pos (by omega)]
          exact y0 e1
        · rw [b6, if_pos (by omega)]
          show 0 = tOv T n (tOa T n a 98) 101
          have : tOv T n (tOa T n a 98) 101 = tIs T n (tOa T n a 98) (tWl 10) := if_pos rfl
          rw [this]
          rw [q0] at hc
          exact hc.symm
    · have hy : tvf T n (tOp T n 98 (0, a)).2 11 0 = 10 := w1.mpr hc
      obtain ⟨b1, b2, b3, b4, b5, b6⟩ := st 1
      obtain ⟨bL, b22⟩ := b3.2.1 e1
      have go := m_goesL (w := w) hK b1 b2 bL ha1
      have zf := zfp_Gx (qa_up mq1 89 (its + 2) 1) (tBe T n (tBe T n (tOp T n 98 (0, a)).2)) (tSt T n (tBe T n (tOp T n 98 (0, a)).2)) (trk (tKi T n (tBe T n (tOp T n 98 (0, a)).2))) (tRm T n (tBe T n (tOp T n 98 (0, a)).2))
      have ML := MLx_Gx T n (tBe T n (tOp T n 98 (0, a)).2) (qa_up mq1 89 (its + 2) 1)
      have e101 : tOp T n 101 (tOp T n 98 (0, a)) = (0, tBe T n (tOp T n 98 (0, a)).2) := by
        unfold tOp at e1 hc ⊢
        rw [if_neg (fun z => z e1)]
        have : tOc T n (if ((0 : Int), a).1 ≠ 0 then ((0 : Int), a) else if tOc T n ((0 : Int), a).2 98 = 0 then (0, tOa T n ((0 : Int), a).2 98) else (tOc T n ((0 : Int), a).2 98, tSt T n (tNa T n ((0 : Int), a).2 98))).2 101 = 0 := if_pos rfl
        rw [if_pos this]
        have h2 : ∀ b, tIs T n b (tWl 10) = 1 → tOa T n b 101 = tBe T n b := fun b hb => by
          unfold tOa
          rw [if_pos rfl, if_pos hb]
        rw [h2 _ hc]
      generalize hgx : tGx (qa_up mq1 89 (its + 2) 1) (tBe T n (tBe T n (tOp T n 98 (0, a)).2)) (tSt T n (tBe T n (tOp T n 98 (0, a)).2)) (trk (tKi T n (tBe T n (tOp T n 98 (0, a)).2))) (tRm T n (tBe T n (tOp T n 98 (0, a)).2)) = mg at go zf ML
      refine ⟨mg, ?_, fun c c1' c2 => by rw [zf.1 c c1', b4 c c1' c2], fun i hi => by rw [zf.2 i hi, b5 i hi], ?_, fun j hj => by rw [zf.1 89 (by decide), b6, if_neg (by omega), if_neg (by omega)], fun hz j hj => ?_⟩
      · have rx1 := rx 1
        have rd1 := rd 1
        unfold f_X12_readRest
        refine qa_fn_eq ?_ (by simp)
        simp (disch := omega) [ev_X12_readRest_0, ev_X12_readRest_1, ev_X12_readRest_2, ev_X12_readRest_3, ev_X12_readRest_4, ev_X12_readRest_5, ev_X12_readRest_6, ev_X12_readRest_7, ev_X12_readRest_8, ev_X12_readRest_9, ev_X12_readRest_10, ev_X12_readRest_11, ev_X12_readRest_12, ev_X12_readRest_13, ev_X12_readRest_14, B_X12_readRest_0, B_X12_readRest_1, B_X12_readRest_2, B_X12_readRest_3, B_X12_readRest_4, B_X12_readRest_5, B_X12_readRest_6, B_X12_readRest_7, B_X12_readRest_8, B_X12_readRest_9, B_X12_readRest_10, B_X12_readRest_11, B_X12_readRest_12, B_X12_readRest_13, B_X12_readRest_14, x_const, x_iadd, x_isub, x_imul, x_idiv, x_irem, x_ineg, x_dup, x_dup_x1, x_dup2, x_pop, x_goto, x_ifeq, x_ifne, x_iflt, x_ifge, x_ifgt, x_ifle, x_cmpeq, x_cmpne, x_cmplt, x_cmpge, x_cmpgt, x_cmple, x_null, x_nonnull, x_acmpeq, x_acmpne, x_get, x_put, x_putz, x_ald, x_ast, x_bast, x_zast, x_aast, x_alen, x_obj, x_ret, x_retz, x_vret, x_max, x_min, x_copy, x_i2l, qg_none, qg_inl, qg_inr, qg_ite, xr1, xr0, xrE, xri, xl0, xl1, xl2, xl3, xl4, xl5, xl6, xl7, xl8, xl9, xl10, xs0, xs1, xs2, xs3, xs4, xs5, xs6, xs7, xs8, xs9, xs10, xi0, xi1, xi2, xi3, xi4, xi5, xi6, xi7, xi8, xi9, xi10, xc0, xc1, xc2, xc3, xc4, xc5, xc6, xc7, xv1, xv2, xv3, xv4, xv5, xv6, xv7, dT_le, dF_le, dT_lt, dF_lt, dF_eq, x_switch, zsw, k77, k89, r25_0, g0, hq1, r25_1, h21, wh, hy, rd1, rx1, go]
      · show MSt T n (tOp T n 101 (tOp T n 98 (0, a))) _
        rw [e101]
        refine ⟨?_, fun _ => ⟨ML, ?_⟩, fun z => absurd rfl z⟩
        · rw [← hgx, tGx_no (by omega), b3.1]; exact e1
        · rw [← hgx, tGx_no (by omega)]; exact b22
      · rw [zf.1 89 (by decide)]
        rcases val j hj with rfl | rfl
        · rw [b6, if_neg (by omega), if_pos (by omega)]
          exact y0 e1
        · rw [b6, if_pos (by omega)]
          show 1 = tOv T n (tOa T n a 98) 101
          have : tOv T n (tOa T n a 98) 101 = tIs T n (tOa T n a 98) (tWl 10) := if_pos rfl
          rw [this]
          rw [q0] at hc
          exact hc.symm
  · obtain ⟨b1, b2, b3, b4, b5, b6⟩ := st 0
    have h21 : mq1 77 21 = (tOp T n 98 (0, a)).1 := hs1.1
    have e101 : tOp T n 101 (tOp T n 98 (0, a)) = tOp T n 98 (0, a) := by
      conv => lhs; unfold tOp
      rw [if_pos]
      · rfl
      · exact e1
    refine ⟨qa_up mq1 89 (its + 2) 0, ?_, b4, b5, ?_, fun j hj => by rw [b6, if_neg (by omega), if_neg (by omega)], fun hz => ?_⟩
    · have rx0 := rx 0
      have rd0 := rd 0
      unfold f_X12_readRest
      refine qa_fn_eq ?_ (by simp)
      simp (disch := omega) [ev_X12_readRest_0, ev_X12_readRest_1, ev_X12_readRest_2, ev_X12_readRest_3, ev_X12_readRest_4, ev_X12_readRest_5, ev_X12_readRest_6, ev_X12_readRest_7, ev_X12_readRest_8, ev_X12_readRest_9, ev_X12_readRest_10, ev_X12_readRest_11, ev_X12_readRest_12, ev_X12_readRest_13, ev_X12_readRest_14, B_X12_readRest_0, B_X12_readRest_1, B_X12_readRest_2, B_X12_readRest_3, B_X12_readRest_4, B_X12_readRest_5, B_X12_readRest_6, B_X12_readRest_7, B_X12_readRest_8, B_X12_readRest_9, B_X12_readRest_10, B_X12_readRest_11, B_X12_readRest_12, B_X12_readRest_13, B_X12_readRest_14, x_const, x_iadd, x_isub, x_imul, x_idiv, x_irem, x_ineg, x_dup, x_dup_x1, x_dup2, x_pop, x_goto, x_ifeq, x_ifne, x_iflt, x_ifge, x_ifgt, x_ifle, x_cmpeq, x_cmpne, x_cmplt, x_cmpge, x_cmpgt, x_cmple, x_null, x_nonnull, x_acmpeq, x_acmpne, x_get, x_put, x_putz, x_ald, x_ast, x_bast, x_zast, x_aast, x_alen, x_obj, x_ret, x_retz, x_vret, x_max, x_min, x_copy, x_i2l, qg_none, qg_inl, qg_inr, qg_ite, xr1, xr0, xrE, xri, xl0, xl1, xl2, xl3, xl4, xl5, xl6, xl7, xl8, xl9, xl10, xs0, xs1, xs2, xs3, xs4, xs5, xs6, xs7, xs8, xs9, xs10, xi0, xi1, xi2, xi3, xi4, xi5, xi6, xi7, xi8, xi9, xi10, xc0, xc1, xc2, xc3, xc4, xc5, xc6, xc7, xv1, xv2, xv3, xv4, xv5, xv6, xv7, dT_le, dF_le, dT_lt, dF_lt, dF_eq, x_switch, zsw, k77, k89, r25_0, g0, hq1, r25_1, h21, e1, rd0, rx0]
    · show MSt T n (tOp T n 101 (tOp T n 98 (0, a))) _
      rw [e101]; exact b3
    · have hz' : (tOp T n 101 (tOp T n 98 (0, a))).1 = 0 := hz
      rw [e101] at hz'
      exact absurd hz' e1
