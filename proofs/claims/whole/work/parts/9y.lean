theorem ma_write {m : Int → Int → Int} {kd : Int → Nat × Int} {w : Nat × Nat × Nat} {A : zA} (hK : KM kd) (hR : RM m) (hQ : QR A (m 79)) {M : Int} (hW : zW M A) (hT : A.1 0 < 99900) (b : Int) : (zBl A b → ∃ m', f_X12_write [(1, 77), (0, b)] (m, kd, w) = some (.inl (some (0, ((tpg A b).length : Int))), (m', kd, w)) ∧ Po (tpg A b) m' ∧ zfq (qa_up m 77 0 0) m') ∧ (¬ zBl A b → f_X12_write [(1, 77), (0, b)] (m, kd, w) = some (.inl (some (0, 0)), (qa_up m 77 0 1, kd, w))) := by
  have k77 := hK.1
  have ib := m_isBranch (w := w) hK hR hQ b
  refine ⟨fun hb => ?_, fun hb => ?_⟩
  · rw [if_pos hb] at ib
    have hb' := hb
    obtain ⟨b0, b4, b1⟩ := hb'
    have hwb := hW.2.2.2.2.2.1 b b0 b4 b1
    unfold zWb at hwb
    have a1 := tdg_1 (v := b) (by omega)
    have a2 := tdg_3 (v := A.2.1 b 4) (by omega)
    have a3 := tdg_3 (v := A.2.1 b 5) (by omega)
    have F1 : zfq (qa_up m 77 0 0) (qa_up (qa_up m 77 0 0) 77 27 0) := ⟨fun c c1 c2 => by
      funext i
      exact qa_up_no _ (fun z => c1 z.1), fun i hi => qa_up_no _ (fun z => hi z.2)⟩
    have hR0 : RM (qa_up m 77 0 0) := by rw [RM_t]; exact hR
    have hQ0 : (qa_up m 77 0 0) 79 = m 79 := rfl
    have P1 : Po [] (qa_up (qa_up m 77 0 0) 77 27 0) := ⟨qa_up_hit _ _ _ _, fun i hi => absurd hi (by simp)⟩
    generalize h1 : qa_up (qa_up m 77 0 0) 77 27 0 = m1 at F1 P1
    obtain ⟨m2, e2, P2, F2'⟩ := m_printsNumber (w := w) hK (zfq_RM F1 hR0) P1 (v := b) ⟨by omega, by omega⟩ (by simp)
    have F2 := F1.trans F2'
    obtain ⟨m3, e3, P3, F3'⟩ := m_prints (w := w) hK (zfq_RM F2 hR0) P2 (ch := 58) (by decide) (by simp; omega)
    have F3 := F2.trans F3'
    obtain ⟨m4, e4, P4, F4'⟩ := m_printsNumber (w := w) hK (zfq_RM F3 hR0) P3 (v := A.2.1 b 4) ⟨by omega, by omega⟩ (by simp; omega)
    have F4 := F3.trans F4'
    obtain ⟨m5, e5, P5, F5'⟩ := m_prints (w := w) hK (zfq_RM F4 hR0) P4 (ch := 45) (by decide) (by simp; omega)
    have F5 := F4.trans F5'
    obtain ⟨m6, e6, P6, F6'⟩ := m_printsNumber (w := w) hK (zfq_RM F5 hR0) P5 (v := A.2.1 b 5) ⟨by omega, by omega⟩ (by simp; omega)
    have F6 := F5.trans F6'
    rw [List.nil_append] at P2 P3 P4 P5 P6
    have Q6 : QR A (m6 79) := by rw [F6.1 79 (by decide) (by decide)]; exact hQ
    obtain ⟨m7, e7, P7, F7⟩ := m_wL (w := w) hK (zfq_RM F6 hR0) Q6 hW hT hb 6 0 _ m6 (by omega) (by omega) P6 (zfq.refl m6) (by simp; omega)
    have o1 : f_X12_ofBranch [(1, 77), (0, b), (0, 1)] (m3, kd, w) = some (.inl (some (0, A.2.1 b 4)), (m3, kd, w)) := by
      have e := m_ofBranch (w := w) hK (zfq_RM F3 hR0) (b := b) (f := 1) b0 b4 (by decide) (by decide)
      rw [F3.1 79 (by decide) (by decide), hQ0, (hQ.2.2.2.2.1 b b0 b4 b1).1] at e
      exact e
    have o2 := m_endOf (w := w) (A := A) hK (zfq_RM F5 hR0) (by rw [F5.1 79 (by decide) (by decide)]; exact hQ) hb ⟨by omega, by omega, by omega⟩
    have E := m_wB0 (w := w) hK hR ib h1.symm e2 e3 o1 e4 e5 o2 e6
    have p27 := P7.1
    refine ⟨m7, ?_, P7, F6.trans F7⟩
    unfold f_X12_write
    refine qa_fn_eq ?_ (by simp)
    refine (E.trans e7).trans ?_
    have p27' : m7 77 27 = ((tpg A b).length : Int) := p27
    generalize ((tpg A b).length : Int) = L at p27'
    rw [ev_X12_write_4]
    simp (disch := omega) [B_X12_write_4, ev_X12_write_6, B_X12_write_6, x_const, x_iadd, x_isub, x_imul, x_idiv, x_irem, x_ineg, x_dup, x_dup_x1, x_dup2, x_pop, x_goto, x_ifeq, x_ifne, x_iflt, x_ifge, x_ifgt, x_ifle, x_cmpeq, x_cmpne, x_cmplt, x_cmpge, x_cmpgt, x_cmple, x_null, x_nonnull, x_acmpeq, x_acmpne, x_get, x_put, x_putz, x_ald, x_ast, x_bast, x_zast, x_aast, x_alen, x_obj, x_ret, x_retz, x_vret, x_max, x_min, x_copy, x_i2l, qg_none, qg_inl, qg_inr, qg_ite, xr1, xr0, xrE, xri, xl0, xl1, xl2, xl3, xl4, xl5, xl6, xl7, xl8, xl9, xl10, xs0, xs1, xs2, xs3, xs4, xs5, xs6, xs7, xs8, xs9, xs10, xi0, xi1, xi2, xi3, xi4, xi5, xi6, xi7, xi8, xi9, xi10, xc0, xc1, xc2, xc3, xc4, xc5, xc6, xc7, xv1, xv2, xv3, xv4, xv5, xv6, xv7, dT_le, dF_le, dT_lt, dF_lt, k77, p27']
  · rw [if_neg hb] at ib
    unfold f_X12_write
    refine qa_fn_eq ?_ (by simp)
    simp (disch := omega) [ev_X12_write_0, ev_X12_write_1, ev_X12_write_2, ev_X12_write_3, ev_X12_write_5, ev_X12_write_6, B_X12_write_0, B_X12_write_1, B_X12_write_2, B_X12_write_3, B_X12_write_4, B_X12_write_5, B_X12_write_6, x_const, x_iadd, x_isub, x_imul, x_idiv, x_irem, x_ineg, x_dup, x_dup_x1, x_dup2, x_pop, x_goto, x_ifeq, x_ifne, x_iflt, x_ifge, x_ifgt, x_ifle, x_cmpeq, x_cmpne, x_cmplt, x_cmpge, x_cmpgt, x_cmple, x_null, x_nonnull, x_acmpeq, x_acmpne, x_get, x_put, x_putz, x_ald, x_ast, x_bast, x_zast, x_aast, x_alen, x_obj, x_ret, x_retz, x_vret, x_max, x_min, x_copy, x_i2l, qg_none, qg_inl, qg_inr, qg_ite, xr1, xr0, xrE, xri, xl0, xl1, xl2, xl3, xl4, xl5, xl6, xl7, xl8, xl9, xl10, xs0, xs1, xs2, xs3, xs4, xs5, xs6, xs7, xs8, xs9, xs10, xi0, xi1, xi2, xi3, xi4, xi5, xi6, xi7, xi8, xi9, xi10, xc0, xc1, xc2, xc3, xc4, xc5, xc6, xc7, xv1, xv2, xv3, xv4, xv5, xv6, xv7, dT_le, dF_le, dT_lt, dF_lt, dT_eq, dF_eq, qa_up_hit, qa_up_no, k77, ib]
theorem m_outS {m : Int → Int → Int} {kd : Int → Nat × Int} {w : Nat × Nat × Nat} (hK : KM kd) (hR : RM m) {L i x : Int} (p1 : m 77 27 = L) (hL : 0 ≤ L ∧ L ≤ 200) (hi : 0 ≤ i ∧ i < L) (hx : m 90 i = x) (rg : ∀ (mm : Int → Int → Int) (l h : Int), f_X12_in [(0, i), (0, l), (0, h)] (mm, kd, w) = some (.inl (some (0, if l ≤ i ∧ i ≤ h then 1 else 0)), (mm, kd, w))) : f_X12_output [(1, 77), (0, i)] (m, kd, w) = some (.inl (some (0, x)), (qa_up m 77 0 0, kd, w)) := by
  obtain ⟨k77, k78, k79, k80, k81, k82, k83, k84, k85, k86, k87, k88, k89, k90⟩ := id hK
  obtain ⟨r1, r2, r3, r4, r6, r7, r8, r12, r13, r15, r23, r25, r26⟩ := id hR
  have r := rg (qa_up m 77 0 0) 0 (L - 1)
  rw [if_pos (by omega)] at r
  unfold f_X12_output
  refine qa_fn_eq ?_ (by simp)
  simp (disch := omega) [ev_X12_output_0, ev_X12_output_1, ev_X12_output_2, B_X12_output_0, B_X12_output_1, B_X12_output_2, x_const, x_iadd, x_isub, x_imul, x_idiv, x_irem, x_ineg, x_dup, x_dup_x1, x_dup2, x_pop, x_goto, x_ifeq, x_ifne, x_iflt, x_ifge, x_ifgt, x_ifle, x_cmpeq, x_cmpne, x_cmplt, x_cmpge, x_cmpgt, x_cmple, x_null, x_nonnull, x_acmpeq, x_acmpne, x_get, x_put, x_putz, x_ald, x_ast, x_bast, x_zast, x_aast, x_alen, x_obj, x_ret, x_retz, x_vret, x_max, x_min, x_copy, x_i2l, qg_none, qg_inl, qg_inr, qg_ite, xr1, xr0, xrE, xri, xl0, xl1, xl2, xl3, xl4, xl5, xl6, xl7, xl8, xl9, xl10, xs0, xs1, xs2, xs3, xs4, xs5, xs6, xs7, xs8, xs9, xs10, xi0, xi1, xi2, xi3, xi4, xi5, xi6, xi7, xi8, xi9, xi10, xc0, xc1, xc2, xc3, xc4, xc5, xc6, xc7, xv1, xv2, xv3, xv4, xv5, xv6, xv7, dT_le, dF_le, dT_lt, dF_lt, dT_eq, dF_eq, qa_up_hit, qa_up_no, k77, k90, r26, p1, r, hx]
theorem m_outN {m : Int → Int → Int} {kd : Int → Nat × Int} {w : Nat × Nat × Nat} (hK : KM kd) (hR : RM m) {L i : Int} (p1 : m 77 27 = L) (hL : 0 ≤ L ∧ L ≤ 200) (hi : ¬ (0 ≤ i ∧ i < L)) (rg : ∀ (mm : Int → Int → Int) (l h : Int), f_X12_in [(0, i), (0, l), (0, h)] (mm, kd, w) = some (.inl (some (0, if l ≤ i ∧ i ≤ h then 1 else 0)), (mm, kd, w))) : f_X12_output [(1, 77), (0, i)] (m, kd, w) = some (.inl (some (0, -1)), (qa_up m 77 0 0, kd, w)) := by
  obtain ⟨k77, k78, k79, k80, k81, k82, k83, k84, k85, k86, k87, k88, k89, k90⟩ := id hK
  obtain ⟨r1, r2, r3, r4, r6, r7, r8, r12, r13, r15, r23, r25, r26⟩ := id hR
  have r := rg (qa_up m 77 0 0) 0 (L - 1)
  rw [if_neg (by omega)] at r
  unfold f_X12_output
  refine qa_fn_eq ?_ (by simp)
  simp (disch := omega) [ev_X12_output_0, ev_X12_output_1, ev_X12_output_2, B_X12_output_0, B_X12_output_1, B_X12_output_2, x_const, x_iadd, x_isub, x_imul, x_idiv, x_irem, x_ineg, x_dup, x_dup_x1, x_dup2, x_pop, x_goto, x_ifeq, x_ifne, x_iflt, x_ifge, x_ifgt, x_ifle, x_cmpeq, x_cmpne, x_cmplt, x_cmpge, x_cmpgt, x_cmple, x_null, x_nonnull, x_acmpeq, x_acmpne, x_get, x_put, x_putz, x_ald, x_ast, x_bast, x_zast, x_aast, x_alen, x_obj, x_ret, x_retz, x_vret, x_max, x_min, x_copy, x_i2l, qg_none, qg_inl, qg_inr, qg_ite, xr1, xr0, xrE, xri, xl0, xl1, xl2, xl3, xl4, xl5, xl6, xl7, xl8, xl9, xl10, xs0, xs1, xs2, xs3, xs4, xs5, xs6, xs7, xs8, xs9, xs10, xi0, xi1, xi2, xi3, xi4, xi5, xi6, xi7, xi8, xi9, xi10, xc0, xc1, xc2, xc3, xc4, xc5, xc6, xc7, xv1, xv2, xv3, xv4, xv5, xv6, xv7, dT_le, dF_le, dT_lt, dF_lt, dT_eq, dF_eq, qa_up_hit, qa_up_no, k77, k90, r26, p1, r]
theorem mq_output {m : Int → Int → Int} {kd : Int → Nat × Int} {w : Nat × Nat × Nat} (hK : KM kd) (hR : RM m) {l : List Int} (hP : Po l m) (hl : l.length ≤ 200) (i : Int) : f_X12_output [(1, 77), (0, i)] (m, kd, w) = some (.inl (some (0, vOut l i)), (qa_up m 77 0 0, kd, w)) := by
  have rg := fun (mm : Int → Int → Int) (l h : Int) => m_in (m := mm) (kd := kd) (w := w) i l h
  unfold vOut
  by_cases hi : 0 ≤ i ∧ i < l.length
  · rw [if_pos hi]
    refine m_outS hK hR hP.1 ⟨by omega, by omega⟩ hi ?_ rg
    have e := hP.2 i.toNat (by omega)
    rw [show ((i.toNat : Nat) : Int) = i by omega] at e
    exact e
  · rw [if_neg hi]
    exact m_outN hK hR hP.1 ⟨by omega, by omega⟩ hi rg
