theorem m_pr0 {m : Int → Int → Int} {kd : Int → Nat × Int} {w : Nat × Nat × Nat} (hK : KM kd) (hR : RM m) {m1 m2 m3 m4 m5 : Int → Int → Int} {r v h : Int} (hr : 0 ≤ r ∧ r < 6) (e1 : f_X12_prints [(1, 77), (0, 32)] (m, kd, w) = some (.inl none, (m1, kd, w))) (e2 : f_X12_prints [(1, 77), (0, 114)] (m1, kd, w) = some (.inl none, (m2, kd, w))) (e3 : f_X12_printsNumber [(1, 77), (0, r)] (m2, kd, w) = some (.inl none, (m3, kd, w))) (e4 : f_X12_prints [(1, 77), (0, 61)] (m3, kd, w) = some (.inl none, (m4, kd, w))) (o : f_X12_ofReader [(1, 77), (0, r), (0, 2)] (m4, kd, w) = some (.inl (some (0, v)), (m4, kd, w))) (e5 : f_X12_printsNumber [(1, 77), (0, v)] (m4, kd, w) = some (.inl none, (m5, kd, w))) (hp : f_X12_hasPromise [(1, 77), (0, r)] (m5, kd, w) = some (.inl (some (0, h)), (m5, kd, w))) (h0 : h = 0) : qa_ev P_X12_printsReader 0 [(1, 77), (0, r)] [] (m, kd, w) = qa_ev P_X12_printsReader 2 [(1, 77), (0, r)] [] (m5, kd, w) := by
  have k77 := hK.1
  simp (disch := omega) [ev_X12_printsReader_0, B_X12_printsReader_0, x_const, x_iadd, x_isub, x_imul, x_idiv, x_irem, x_ineg, x_dup, x_dup_x1, x_dup2, x_pop, x_goto, x_ifeq, x_ifne, x_iflt, x_ifge, x_ifgt, x_ifle, x_cmpeq, x_cmpne, x_cmplt, x_cmpge, x_cmpgt, x_cmple, x_null, x_nonnull, x_acmpeq, x_acmpne, x_get, x_put, x_putz, x_ald, x_ast, x_bast, x_zast, x_aast, x_alen, x_obj, x_ret, x_retz, x_vret, x_max, x_min, x_copy, x_i2l, qg_none, qg_inl, qg_inr, qg_ite, xr1, xr0, xrE, xri, xl0, xl1, xl2, xl3, xl4, xl5, xl6, xl7, xl8, xl9, xl10, xs0, xs1, xs2, xs3, xs4, xs5, xs6, xs7, xs8, xs9, xs10, xi0, xi1, xi2, xi3, xi4, xi5, xi6, xi7, xi8, xi9, xi10, xc0, xc1, xc2, xc3, xc4, xc5, xc6, xc7, xv1, xv2, xv3, xv4, xv5, xv6, xv7, dT_le, dF_le, dT_lt, dF_lt, k77, e1, e2, e3, e4, o, e5, hp, h0]
theorem m_pr1 {m : Int → Int → Int} {kd : Int → Nat × Int} {w : Nat × Nat × Nat} (hK : KM kd) (hR : RM m) {m1 m2 m3 m4 m5 m6 m7 : Int → Int → Int} {r v h x : Int} (hr : 0 ≤ r ∧ r < 6) (e1 : f_X12_prints [(1, 77), (0, 32)] (m, kd, w) = some (.inl none, (m1, kd, w))) (e2 : f_X12_prints [(1, 77), (0, 114)] (m1, kd, w) = some (.inl none, (m2, kd, w))) (e3 : f_X12_printsNumber [(1, 77), (0, r)] (m2, kd, w) = some (.inl none, (m3, kd, w))) (e4 : f_X12_prints [(1, 77), (0, 61)] (m3, kd, w) = some (.inl none, (m4, kd, w))) (o : f_X12_ofReader [(1, 77), (0, r), (0, 2)] (m4, kd, w) = some (.inl (some (0, v)), (m4, kd, w))) (e5 : f_X12_printsNumber [(1, 77), (0, v)] (m4, kd, w) = some (.inl none, (m5, kd, w))) (hp : f_X12_hasPromise [(1, 77), (0, r)] (m5, kd, w) = some (.inl (some (0, h)), (m5, kd, w))) (h0 : h = 1) (e6 : f_X12_prints [(1, 77), (0, 112)] (m5, kd, w) = some (.inl none, (m6, kd, w))) (o2 : f_X12_ofReader [(1, 77), (0, r), (0, 4)] (m6, kd, w) = some (.inl (some (0, x)), (m6, kd, w))) (e7 : f_X12_printsNumber [(1, 77), (0, x)] (m6, kd, w) = some (.inl none, (m7, kd, w))) : qa_ev P_X12_printsReader 0 [(1, 77), (0, r)] [] (m, kd, w) = qa_ev P_X12_printsReader 2 [(1, 77), (0, r)] [] (m7, kd, w) := by
  have k77 := hK.1
  simp (disch := omega) [ev_X12_printsReader_0, B_X12_printsReader_0, ev_X12_printsReader_1, B_X12_printsReader_1, x_const, x_iadd, x_isub, x_imul, x_idiv, x_irem, x_ineg, x_dup, x_dup_x1, x_dup2, x_pop, x_goto, x_ifeq, x_ifne, x_iflt, x_ifge, x_ifgt, x_ifle, x_cmpeq, x_cmpne, x_cmplt, x_cmpge, x_cmpgt, x_cmple, x_null, x_nonnull, x_acmpeq, x_acmpne, x_get, x_put, x_putz, x_ald, x_ast, x_bast, x_zast, x_aast, x_alen, x_obj, x_ret, x_retz, x_vret, x_max, x_min, x_copy, x_i2l, qg_none, qg_inl, qg_inr, qg_ite, xr1, xr0, xrE, xri, xl0, xl1, xl2, xl3, xl4, xl5, xl6, xl7, xl8, xl9, xl10, xs0, xs1, xs2, xs3, xs4, xs5, xs6, xs7, xs8, xs9, xs10, xi0, xi1, xi2, xi3, xi4, xi5, xi6, xi7, xi8, xi9, xi10, xc0, xc1, xc2, xc3, xc4, xc5, xc6, xc7, xv1, xv2, xv3, xv4, xv5, xv6, xv7, dT_le, dF_le, dT_lt, dF_lt, k77, e1, e2, e3, e4, o, e5, hp, h0, e6, o2, e7]
theorem m_pr2 {m : Int → Int → Int} {kd : Int → Nat × Int} {w : Nat × Nat × Nat} (hK : KM kd) (hR : RM m) {l : List Int} {r d : Int} (hP : Po l m) (hl : l.length < 200) (o : f_X12_ofReader [(1, 77), (0, r), (0, 9)] (m, kd, w) = some (.inl (some (0, d)), (m, kd, w))) : ∃ m', qa_ev P_X12_printsReader 2 [(1, 77), (0, r)] [] (m, kd, w) = some (.inl none, (m', kd, w)) ∧ Po (l ++ (if 0 < d then [33] else [])) m' ∧ zfq m m' := by
  have k77 := hK.1
  by_cases h : 0 < d
  · rw [if_pos h]
    obtain ⟨m1, e1, P1, F1⟩ := m_prints (w := w) hK hR hP (ch := 33) (by decide) hl
    refine ⟨m1, ?_, P1, F1⟩
    simp (disch := omega) [ev_X12_printsReader_2, B_X12_printsReader_2, ev_X12_printsReader_3, B_X12_printsReader_3, x_const, x_iadd, x_isub, x_imul, x_idiv, x_irem, x_ineg, x_dup, x_dup_x1, x_dup2, x_pop, x_goto, x_ifeq, x_ifne, x_iflt, x_ifge, x_ifgt, x_ifle, x_cmpeq, x_cmpne, x_cmplt, x_cmpge, x_cmpgt, x_cmple, x_null, x_nonnull, x_acmpeq, x_acmpne, x_get, x_put, x_putz, x_ald, x_ast, x_bast, x_zast, x_aast, x_alen, x_obj, x_ret, x_retz, x_vret, x_max, x_min, x_copy, x_i2l, qg_none, qg_inl, qg_inr, qg_ite, xr1, xr0, xrE, xri, xl0, xl1, xl2, xl3, xl4, xl5, xl6, xl7, xl8, xl9, xl10, xs0, xs1, xs2, xs3, xs4, xs5, xs6, xs7, xs8, xs9, xs10, xi0, xi1, xi2, xi3, xi4, xi5, xi6, xi7, xi8, xi9, xi10, xc0, xc1, xc2, xc3, xc4, xc5, xc6, xc7, xv1, xv2, xv3, xv4, xv5, xv6, xv7, dT_le, dF_le, dT_lt, dF_lt, k77, o, e1]
  · rw [if_neg h, List.append_nil]
    refine ⟨m, ?_, hP, zfq.refl m⟩
    simp (disch := omega) [ev_X12_printsReader_2, B_X12_printsReader_2, ev_X12_printsReader_3, B_X12_printsReader_3, x_const, x_iadd, x_isub, x_imul, x_idiv, x_irem, x_ineg, x_dup, x_dup_x1, x_dup2, x_pop, x_goto, x_ifeq, x_ifne, x_iflt, x_ifge, x_ifgt, x_ifle, x_cmpeq, x_cmpne, x_cmplt, x_cmpge, x_cmpgt, x_cmple, x_null, x_nonnull, x_acmpeq, x_acmpne, x_get, x_put, x_putz, x_ald, x_ast, x_bast, x_zast, x_aast, x_alen, x_obj, x_ret, x_retz, x_vret, x_max, x_min, x_copy, x_i2l, qg_none, qg_inl, qg_inr, qg_ite, xr1, xr0, xrE, xri, xl0, xl1, xl2, xl3, xl4, xl5, xl6, xl7, xl8, xl9, xl10, xs0, xs1, xs2, xs3, xs4, xs5, xs6, xs7, xs8, xs9, xs10, xi0, xi1, xi2, xi3, xi4, xi5, xi6, xi7, xi8, xi9, xi10, xc0, xc1, xc2, xc3, xc4, xc5, xc6, xc7, xv1, xv2, xv3, xv4, xv5, xv6, xv7, dT_le, dF_le, dT_lt, dF_lt, k77, o]
theorem m_printsReader {m : Int → Int → Int} {kd : Int → Nat × Int} {w : Nat × Nat × Nat} {A : zA} (hK : KM kd) (hR : RM m) (hQ : QR A (m 79)) {l : List Int} (hP : Po l m) {r : Int} (hr : zRl A r) (hp : 0 ≤ A.2.2.1 r 2 ∧ A.2.2.1 r 2 < 1000) (hq : -1 ≤ A.2.2.1 r 4 ∧ A.2.2.1 r 4 < 100000) (hl : l.length + 14 ≤ 142) : ∃ m', f_X12_printsReader [(1, 77), (0, r)] (m, kd, w) = some (.inl none, (m', kd, w)) ∧ Po (l ++ tpr A r) m' ∧ zfq m m' := by
  obtain ⟨q1, q2, q3⟩ := id hr
  have a1 := tdg_1 (v := r) (by omega)
  have a2 := tdg_3 hp.2
  have of : ∀ (mm : Int → Int → Int) (j : Int), zfq m mm → 1 ≤ j → j ≤ 11 → f_X12_ofReader [(1, 77), (0, r), (0, j)] (mm, kd, w) = some (.inl (some (0, A.2.2.1 r j)), (mm, kd, w)) := fun mm j F j1 j2 => by
    have e := m_ofReader (w := w) hK (zfq_RM F hR) (r := r) (f := j) q1 q2 (by omega) (by omega)
    rw [F.1 79 (by decide) (by decide)] at e
    rw [e, hQ.2.2.2.2.2.2.1 r j q1 q2 q3 j1 j2]
  obtain ⟨m1, e1, P1, F1⟩ := m_prints (w := w) hK hR hP (ch := 32) (by decide) (by omega)
  obtain ⟨m2, e2, P2, F2'⟩ := m_prints (w := w) hK (zfq_RM F1 hR) P1 (ch := 114) (by decide) (by simp; omega)
  have F2 := F1.trans F2'
  obtain ⟨m3, e3, P3, F3'⟩ := m_printsNumber (w := w) hK (zfq_RM F2 hR) P2 (v := r) ⟨by omega, by omega⟩ (by simp; omega)
  have F3 := F2.trans F3'
  obtain ⟨m4, e4, P4, F4'⟩ := m_prints (w := w) hK (zfq_RM F3 hR) P3 (ch := 61) (by decide) (by simp; omega)
  have F4 := F3.trans F4'
  obtain ⟨m5, e5, P5, F5'⟩ := m_printsNumber (w := w) hK (zfq_RM F4 hR) P4 (v := A.2.2.1 r 2) ⟨by omega, by omega⟩ (by simp; omega)
  have F5 := F4.trans F5'
  have hpr := m_hasPromise (w := w) (A := A) hK (zfq_RM F5 hR) (by rw [F5.1 79 (by decide) (by decide)]; exact hQ) r
  by_cases hz : A.2.2.1 r 4 = -1
  · rw [if_neg (fun z => z.2 hz)] at hpr
    obtain ⟨m6, e6, P6, F6⟩ := m_pr2 (w := w) hK (zfq_RM F5 hR) P5 (by simp; omega) (of m5 9 F5 (by decide) (by decide))
    refine ⟨m6, ?_, ?_, F5.trans F6⟩
    · unfold f_X12_printsReader
      refine qa_fn_eq ?_ (by simp)
      exact (m_pr0 hK hR ⟨q1, q2⟩ e1 e2 e3 e4 (of m4 2 F4 (by decide) (by decide)) e5 hpr rfl).trans e6
    · unfold tpr
      rw [if_pos hz]
      simpa using P6
  · rw [if_pos ⟨hr, hz⟩] at hpr
    have a3 := (tdg_r (v := A.2.2.1 r 4) ⟨by omega, hq.2⟩).1.2
    obtain ⟨m6, e6, P6, F6'⟩ := m_prints (w := w) hK (zfq_RM F5 hR) P5 (ch := 112) (by decide) (by simp; omega)
    have F6 := F5.trans F6'
    obtain ⟨m7, e7, P7, F7'⟩ := m_printsNumber (w := w) hK (zfq_RM F6 hR) P6 (v := A.2.2.1 r 4) ⟨by omega, by omega⟩ (by simp; omega)
    have F7 := F6.trans F7'
    obtain ⟨m8, e8, P8, F8⟩ := m_pr2 (w := w) hK (zfq_RM F7 hR) P7 (by simp; omega) (of m7 9 F7 (by decide) (by decide))
    refine ⟨m8, ?_, ?_, F7.trans F8⟩
    · unfold f_X12_printsReader
      refine qa_fn_eq ?_ (by simp)
      exact (m_pr1 hK hR ⟨q1, q2⟩ e1 e2 e3 e4 (of m4 2 F4 (by decide) (by decide)) e5 hpr rfl e6 (of m6 4 F6 (by decide) (by decide)) e7).trans e8
    · unfold tpr
      rw [if_neg hz]
      simpa using P8
theorem m_wB0 {m : Int → Int → Int} {kd : Int → Nat × Int} {w : Nat × Nat × Nat} (hK : KM kd) (hR : RM m) {m1 m2 m3 m4 m5 m6 : Int → Int → Int} {b f e : Int} (hb : f_X12_isBranch [(1, 77), (0, b)] (m, kd, w) = some (.inl (some (0, 1)), (m, kd, w))) (h1 : m1 = qa_up (qa_up m 77 0 0) 77 27 0) (e1 : f_X12_printsNumber [(1, 77), (0, b)] (m1, kd, w) = some (.inl none, (m2, kd, w))) (e2 : f_X12_prints [(1, 77), (0, 58)] (m2, kd, w) = some (.inl none, (m3, kd, w))) (o1 : f_X12_ofBranch [(1, 77), (0, b), (0, 1)] (m3, kd, w) = some (.inl (some (0, f)), (m3, kd, w))) (e3 : f_X12_printsNumber [(1, 77), (0, f)] (m3, kd, w) = some (.inl none, (m4, kd, w))) (e4 : f_X12_prints [(1, 77), (0, 45)] (m4, kd, w) = some (.inl none, (m5, kd, w))) (o2 : f_X12_endOf [(1, 77), (0, b)] (m5, kd, w) = some (.inl (some (0, e)), (m5, kd, w))) (e5 : f_X12_printsNumber [(1, 77), (0, e)] (m5, kd, w) = some (.inl none, (m6, kd, w))) : qa_ev P_X12_write 0 [(1, 77), (0, b), (9, 0)] [] (m, kd, w) = qa_ev P_X12_write 4 [(1, 77), (0, b), (0, 0)] [] (m6, kd, w) := by
  have k77 := hK.1
  subst h1
  simp (disch := omega) [ev_X12_write_0, B_X12_write_0, ev_X12_write_1, B_X12_write_1, ev_X12_write_2, B_X12_write_2, ev_X12_write_3, B_X12_write_3, x_const, x_iadd, x_isub, x_imul, x_idiv, x_irem, x_ineg, x_dup, x_dup_x1, x_dup2, x_pop, x_goto, x_ifeq, x_ifne, x_iflt, x_ifge, x_ifgt, x_ifle, x_cmpeq, x_cmpne, x_cmplt, x_cmpge, x_cmpgt, x_cmple, x_null, x_nonnull, x_acmpeq, x_acmpne, x_get, x_put, x_putz, x_ald, x_ast, x_bast, x_zast, x_aast, x_alen, x_obj, x_ret, x_retz, x_vret, x_max, x_min, x_copy, x_i2l, qg_none, qg_inl, qg_inr, qg_ite, xr1, xr0, xrE, xri, xl0, xl1, xl2, xl3, xl4, xl5, xl6, xl7, xl8, xl9, xl10, xs0, xs1, xs2, xs3, xs4, xs5, xs6, xs7, xs8, xs9, xs10, xi0, xi1, xi2, xi3, xi4, xi5, xi6, xi7, xi8, xi9, xi10, xc0, xc1, xc2, xc3, xc4, xc5, xc6, xc7, xv1, xv2, xv3, xv4, xv5, xv6, xv7, dT_le, dF_le, dT_lt, dF_lt, dT_eq, dF_eq, qa_up_hit, qa_up_no, k77, hb, e1, e2, o1, e3, e4, o2, e5]
theorem m_wL {m : Int → Int → Int} {kd : Int → Nat × Int} {w : Nat × Nat × Nat} {A : zA} (hK : KM kd) (hR : RM m) (hQ : QR A (m 79)) {M : Int} (hW : zW M A) (hT : A.1 0 < 99900) {b : Int} (hb : zBl A b) : ∀ (q : Nat) (k : Int) (l : List Int) (m1 : Int → Int → Int), k + q = 6 → 0 ≤ k → Po l m1 → zfq m m1 → l.length + 14 * q ≤ 142 → ∃ m', qa_ev P_X12_write 4 [(1, 77), (0, b), (0, k)] [] (m1, kd, w) = qa_ev P_X12_write 4 [(1, 77), (0, b), (0, 6)] [] (m', kd, w) ∧ Po (l ++ tpf A b q k) m' ∧ zfq m m' := by
  intro q
  induction q with
  | zero =>
    intro k l m1 hk k0 hP hF hl
    have : k = 6 := by omega
    subst this
    exact ⟨m1, rfl, by simp only [tpf, List.append_nil]; exact hP, hF⟩
  | succ q ih =>
    intro k l m1 hk k0 hP hF hl
    have k77 := hK.1
    have hQ1 : QR A (m1 79) := by rw [hF.1 79 (by decide) (by decide)]; exact hQ
    have is := m_isIn (w := w) hK (zfq_RM hF hR) hQ1 k b
    by_cases hin : zIn A k b
    · rw [if_pos hin] at is
      have hwr := hW.2.2.2.2.2.2.2.1 k hin.1.1 hin.1.2.1 hin.1.2.2
      unfold zWr at hwr
      rw [hin.2] at hwr
      have hwb := hW.2.2.2.2.2.1 b hb.1 hb.2.1 hb.2.2
      unfold zWb at hwb
      obtain ⟨m2, e2, P2, F2⟩ := m_printsReader (w := w) hK (zfq_RM hF hR) hQ1 hP hin.1 ⟨by omega, by omega⟩ ⟨by omega, by omega⟩ (by omega)
      have tl := tpr_l (A := A) (r := k) (by omega) (by omega) (fun _ => by omega) (by omega)
      obtain ⟨m3, e3, P3, F3⟩ := ih (k + 1) (l ++ tpr A k) m2 (by omega) (by omega) P2 (hF.trans F2) (by rw [List.length_append]; omega)
      refine ⟨m3, Eq.trans ?_ e3, ?_, F3⟩
      · rw [ev_X12_write_4]
        simp (disch := omega) [B_X12_write_4, ev_X12_write_5, B_X12_write_5, x_const, x_iadd, x_isub, x_imul, x_idiv, x_irem, x_ineg, x_dup, x_dup_x1, x_dup2, x_pop, x_goto, x_ifeq, x_ifne, x_iflt, x_ifge, x_ifgt, x_ifle, x_cmpeq, x_cmpne, x_cmplt, x_cmpge, x_cmpgt, x_cmple, x_null, x_nonnull, x_acmpeq, x_acmpne, x_get, x_put, x_putz, x_ald, x_ast, x_bast, x_zast, x_aast, x_alen, x_obj, x_ret, x_retz, x_vret, x_max, x_min, x_copy, x_i2l, qg_none, qg_inl, qg_inr, qg_ite, xr1, xr0, xrE, xri, xl0, xl1, xl2, xl3, xl4, xl5, xl6, xl7, xl8, xl9, xl10, xs0, xs1, xs2, xs3, xs4, xs5, xs6, xs7, xs8, xs9, xs10, xi0, xi1, xi2, xi3, xi4, xi5, xi6, xi7, xi8, xi9, xi10, xc0, xc1, xc2, xc3, xc4, xc5, xc6, xc7, xv1, xv2, xv3, xv4, xv5, xv6, xv7, dT_le, dF_le, dT_lt, dF_lt, k77, is, e2]
      · simp only [tpf]
        rw [if_pos hin, ← List.append_assoc]
        exact P3
    · rw [if_neg hin] at is
      obtain ⟨m3, e3, P3, F3⟩ := ih (k + 1) l m1 (by omega) (by omega) hP hF (by omega)
      refine ⟨m3, Eq.trans ?_ e3, ?_, F3⟩
      · rw [ev_X12_write_4]
        simp (disch := omega) [B_X12_write_4, ev_X12_write_5, B_X12_write_5, x_const, x_iadd, x_isub, x_imul, x_idiv, x_irem, x_ineg, x_dup, x_dup_x1, x_dup2, x_pop, x_goto, x_ifeq, x_ifne, x_iflt, x_ifge, x_ifgt, x_ifle, x_cmpeq, x_cmpne, x_cmplt, x_cmpge, x_cmpgt, x_cmple, x_null, x_nonnull, x_acmpeq, x_acmpne, x_get, x_put, x_putz, x_ald, x_ast, x_bast, x_zast, x_aast, x_alen, x_obj, x_ret, x_retz, x_vret, x_max, x_min, x_copy, x_i2l, qg_none, qg_inl, qg_inr, qg_ite, xr1, xr0, xrE, xri, xl0, xl1, xl2, xl3, xl4, xl5, xl6, xl7, xl8, xl9, xl10, xs0, xs1, xs2, xs3, xs4, xs5, xs6, xs7, xs8, xs9, xs10, xi0, xi1, xi2, xi3, xi4, xi5, xi6, xi7, xi8, xi9, xi10, xc0, xc1, xc2, xc3, xc4, xc5, xc6, xc7, xv1, xv2, xv3, xv4, xv5, xv6, xv7, dT_le, dF_le, dT_lt, dF_lt, k77, is]
      · simp only [tpf]
        rw [if_neg hin, List.nil_append]
        exact P3
