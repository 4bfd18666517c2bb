def zAnsT (t e1 : Nat) (q : Int × Int) (m : Int → Int → Int) (kd : Int → Nat × Int) (w : Nat × Nat × Nat) : Option qR := if q.1 = 0 then some (.inl (some (t, q.2)), (m, kd, w)) else some (.inr e1, (m, kd, w.1, w.2.1 + 1, w.2.2 + 6))
def mAnsT (t : Nat) (q : Int × Int) (m : Int → Int → Int) (kd : Int → Nat × Int) (w : Nat × Nat × Nat) : Option qR := some (.inl (some (t, q.2)), (qa_up m 77 0 q.1, kd, w))
theorem zAnsT_0 (t e1 : Nat) (v : Int) (m : Int → Int → Int) (kd : Int → Nat × Int) (w : Nat × Nat × Nat) : zAnsT t e1 (0, v) m kd w = some (.inl (some (t, v)), (m, kd, w)) := rfl
theorem zAnsT_1 (t e1 : Nat) (v : Int) (m : Int → Int → Int) (kd : Int → Nat × Int) (w : Nat × Nat × Nat) : zAnsT t e1 (1, v) m kd w = some (.inr e1, (m, kd, w.1, w.2.1 + 1, w.2.2 + 6)) := rfl
theorem mAnsT_e (t : Nat) (e v : Int) (m : Int → Int → Int) (kd : Int → Nat × Int) (w : Nat × Nat × Nat) : mAnsT t (e, v) m kd w = some (.inl (some (t, v)), (qa_up m 77 0 e, kd, w)) := rfl
theorem zsf_bd {g : Int → Int} {X : Int} (h0 : 0 ≤ X) : ∀ (n : Nat) (k : Int), (∀ i, k ≤ i → i < k + n → -X ≤ g i ∧ g i ≤ X) → -(X * n) ≤ zsf g k n ∧ zsf g k n ≤ X * n := by
  intro n
  induction n with
  | zero => intro k _; simp [zsf]
  | succ n ih =>
    intro k h
    have h1 := h k (by omega) (by omega)
    have h2 := ih (k + 1) (fun i a b => h i (by omega) (by omega))
    have e : X * ((n + 1 : Nat) : Int) = X * n + X := by rw [Int.natCast_succ, Int.mul_add, Int.mul_one]
    simp only [zsf]
    rw [e]
    omega
def zSumV (A : zA) (b : Int) : Int := zsf (fun q => A.2.2.2 b q 3) (A.2.1 b 4) (A.2.1 b 5 - A.2.1 b 4).toNat
theorem zSumV_b {M : Int} {A : zA} (hW : zW M A) {b : Int} (hb : zBl A b) : -50688 ≤ zSumV A b ∧ zSumV A b ≤ 50688 := by
  have hbn := hW.bn hb
  have h := zsf_bd (g := fun q => A.2.2.2 b q 3) (X := 99) (by decide) (A.2.1 b 5 - A.2.1 b 4).toNat (A.2.1 b 4) (fun i a c => by
    have := hW.2.2.2.2.2.2.1 b i hb.1 hb.2.1 hb.2.2 a (by omega)
    unfold zWe at this
    show -99 ≤ A.2.2.2 b i 3 ∧ A.2.2.2 b i 3 ≤ 99
    omega)
  unfold zSumV
  omega
def vMean (A : zA) (b : Int) : Int := if A.2.1 b 5 ≤ A.2.1 b 4 then 0 else zdd (zSumV A b) (A.2.1 b 5 - A.2.1 b 4)
def vTrust (A : zA) (r : Int) : Int := if A.2.2.1 r 5 + A.2.2.1 r 6 = 0 then 1065353216 else zff2 (A.2.2.1 r 5) (A.2.2.1 r 5 + A.2.2.1 r 6)
theorem vMean_N {M : Int} {A : zA} (hW : zW M A) {b : Int} (hb : zBl A b) : N64 (vMean A b) := by
  have hbn := hW.bn hb
  have hs := zSumV_b hW hb
  unfold vMean
  split
  · exact N64_0
  · exact (zdd_N (by omega) (by omega) (by omega)).1
theorem vTrust_N {M : Int} {A : zA} (hW : zW M A) {r : Int} (hr : zRl A r) : N32 (vTrust A r) := by
  have hrn := hW.rn hr
  have tn := hW.tn
  unfold vTrust
  split
  · exact N32_1
  · exact (zff_N (by omega) (by omega) (by omega)).1
theorem cq_mean {m : Int → Int → Int} {kd : Int → Nat × Int} {w : Nat × Nat × Nat} {A : zA} {S : Int} (hK : KS kd S) (hC : RC A m kd S) {M : Int} (hW : zW M A) (hx : kd 0 = (14, 0)) (hn : m 0 1 = S) (b : Int) : f_X11_mean [(1, 0), (0, b)] (m, kd, w) = zAnsT 4 1 (zA1 (zBl A b) (vMean A b)) m kd w := by
  have ne := c_needBranch (w := w) hK hC hW hx hn b
  obtain ⟨⟨f2, f3, f4, fV, fW, f0, f8, f9, f7⟩, e0, e1, eC, eB, eR, eD, eL, eE⟩ := id hC
  obtain ⟨kN, kS, kC, kV, kW, kB, kE, kR, kD, kL⟩ := id hK
  by_cases h : zBl A b
  · rw [if_pos h] at ne
    rw [zA1_v h, zAnsT_0]
    have hbn := hW.bn h
    have hs := zSumV_b hW h
    have sv := c_valueSum (w := w) hK hC hW h
    change f_X2_valueSum _ _ = some (.inl (some (0, zSumV A b)), _) at sv
    obtain ⟨b1, b2, b3⟩ := id h
    have v4 := eB b 4 b1 b2 (by decide) (by decide)
    have v5 := eB b 5 b1 b2 (by decide) (by decide)
    have kb := kB b b1 b2
    unfold vMean
    by_cases hc : A.2.1 b 5 ≤ A.2.1 b 4
    · rw [if_pos hc]
      unfold f_X11_mean
      refine qa_fn_eq ?_ (by simp)
      simp (disch := omega) [ev_X11_mean_0, ev_X11_mean_1, B_X11_mean_0, B_X11_mean_1, x_const, x_iadd, x_isub, x_imul, x_idiv, x_irem, x_ineg, x_dup, x_dup_x1, x_dup2, x_pop, x_goto, x_ifeq, x_ifne, x_iflt, x_ifge, x_ifgt, x_ifle, x_cmpeq, x_cmpne, x_cmplt, x_cmpge, x_cmpgt, x_cmple, x_null, x_nonnull, x_acmpeq, x_acmpne, x_get, x_put, x_putz, x_ald, x_ast, x_bast, x_zast, x_aast, x_alen, x_obj, x_ret, x_retz, x_vret, x_max, x_min, x_copy, x_i2l, qg_none, qg_inl, qg_inr, qg_ite, xr1, xr0, xrE, xri, xl0, xl1, xl2, xl3, xl4, xl5, xl6, xl7, xl8, xl9, xl10, xs0, xs1, xs2, xs3, xs4, xs5, xs6, xs7, xs8, xs9, xs10, xi0, xi1, xi2, xi3, xi4, xi5, xi6, xi7, xi8, xi9, xi10, xc0, xc1, xc2, xc3, xc4, xc5, xc6, xc7, xv1, xv2, xv3, xv4, xv5, xv6, xv7, dT_le, dF_le, dT_lt, dF_lt, hx, ne, kb, v4, v5]
    · rw [if_neg hc]
      unfold f_X11_mean
      refine qa_fn_eq ?_ (by simp)
      simp (disch := omega) [ev_X11_mean_0, ev_X11_mean_1, B_X11_mean_0, B_X11_mean_1, x_const, x_iadd, x_isub, x_imul, x_idiv, x_irem, x_ineg, x_dup, x_dup_x1, x_dup2, x_pop, x_goto, x_ifeq, x_ifne, x_iflt, x_ifge, x_ifgt, x_ifle, x_cmpeq, x_cmpne, x_cmplt, x_cmpge, x_cmpgt, x_cmple, x_null, x_nonnull, x_acmpeq, x_acmpne, x_get, x_put, x_putz, x_ald, x_ast, x_bast, x_zast, x_aast, x_alen, x_obj, x_ret, x_retz, x_vret, x_max, x_min, x_copy, x_i2l, qg_none, qg_inl, qg_inr, qg_ite, xr1, xr0, xrE, xri, xl0, xl1, xl2, xl3, xl4, xl5, xl6, xl7, xl8, xl9, xl10, xs0, xs1, xs2, xs3, xs4, xs5, xs6, xs7, xs8, xs9, xs10, xi0, xi1, xi2, xi3, xi4, xi5, xi6, xi7, xi8, xi9, xi10, xc0, xc1, xc2, xc3, xc4, xc5, xc6, xc7, xv1, xv2, xv3, xv4, xv5, xv6, xv7, dT_le, dF_le, dT_lt, dF_lt, hx, ne, kb, v4, v5, sv, x_i2d, x_ddiv]
  · rw [if_neg h] at ne
    rw [zA1_1 h, zAnsT_1]
    unfold f_X11_mean
    refine qa_fn_eq ?_ (by simp)
    simp (disch := omega) [ev_X11_mean_0, ev_X11_mean_1, B_X11_mean_0, B_X11_mean_1, x_const, x_iadd, x_isub, x_imul, x_idiv, x_irem, x_ineg, x_dup, x_dup_x1, x_dup2, x_pop, x_goto, x_ifeq, x_ifne, x_iflt, x_ifge, x_ifgt, x_ifle, x_cmpeq, x_cmpne, x_cmplt, x_cmpge, x_cmpgt, x_cmple, x_null, x_nonnull, x_acmpeq, x_acmpne, x_get, x_put, x_putz, x_ald, x_ast, x_bast, x_zast, x_aast, x_alen, x_obj, x_ret, x_retz, x_vret, x_max, x_min, x_copy, x_i2l, qg_none, qg_inl, qg_inr, qg_ite, xr1, xr0, xrE, xri, xl0, xl1, xl2, xl3, xl4, xl5, xl6, xl7, xl8, xl9, xl10, xs0, xs1, xs2, xs3, xs4, xs5, xs6, xs7, xs8, xs9, xs10, xi0, xi1, xi2, xi3, xi4, xi5, xi6, xi7, xi8, xi9, xi10, xc0, xc1, xc2, xc3, xc4, xc5, xc6, xc7, xv1, xv2, xv3, xv4, xv5, xv6, xv7, dT_le, dF_le, dT_lt, dF_lt, hx, ne]
theorem cq_trust {m : Int → Int → Int} {kd : Int → Nat × Int} {w : Nat × Nat × Nat} {A : zA} {S : Int} (hK : KS kd S) (hC : RC A m kd S) {M : Int} (hW : zW M A) (hx : kd 0 = (14, 0)) (hn : m 0 1 = S) (r : Int) : f_X11_trust [(1, 0), (0, r)] (m, kd, w) = zAnsT 3 1 (zA1 (zRl A r) (vTrust A r)) m kd w := by
  have ne := c_needReader (w := w) hK hC hW hx hn r
  obtain ⟨⟨f2, f3, f4, fV, fW, f0, f8, f9, f7⟩, e0, e1, eC, eB, eR, eD, eL, eE⟩ := id hC
  obtain ⟨kN, kS, kC, kV, kW, kB, kE, kR, kD, kL⟩ := id hK
  by_cases h : zRl A r
  · rw [if_pos h] at ne
    rw [zA1_v h, zAnsT_0]
    have hrn := hW.rn h
    have tn := hW.tn
    obtain ⟨s1, s2, s3⟩ := id h
    have v5 := eR r 5 s1 s2 (by decide) (by decide)
    have v6 := eR r 6 s1 s2 (by decide) (by decide)
    have kr := kR r s1 s2
    unfold vTrust
    by_cases hc : A.2.2.1 r 5 + A.2.2.1 r 6 = 0
    · rw [if_pos hc]
      unfold f_X11_trust
      refine qa_fn_eq ?_ (by simp)
      simp (disch := omega) [ev_X11_trust_0, ev_X11_trust_1, B_X11_trust_0, B_X11_trust_1, x_const, x_iadd, x_isub, x_imul, x_idiv, x_irem, x_ineg, x_dup, x_dup_x1, x_dup2, x_pop, x_goto, x_ifeq, x_ifne, x_iflt, x_ifge, x_ifgt, x_ifle, x_cmpeq, x_cmpne, x_cmplt, x_cmpge, x_cmpgt, x_cmple, x_null, x_nonnull, x_acmpeq, x_acmpne, x_get, x_put, x_putz, x_ald, x_ast, x_bast, x_zast, x_aast, x_alen, x_obj, x_ret, x_retz, x_vret, x_max, x_min, x_copy, x_i2l, qg_none, qg_inl, qg_inr, qg_ite, xr1, xr0, xrE, xri, xl0, xl1, xl2, xl3, xl4, xl5, xl6, xl7, xl8, xl9, xl10, xs0, xs1, xs2, xs3, xs4, xs5, xs6, xs7, xs8, xs9, xs10, xi0, xi1, xi2, xi3, xi4, xi5, xi6, xi7, xi8, xi9, xi10, xc0, xc1, xc2, xc3, xc4, xc5, xc6, xc7, xv1, xv2, xv3, xv4, xv5, xv6, xv7, dT_le, dF_le, dT_lt, dF_lt, hx, ne, kr, v5, v6]
    · rw [if_neg hc]
      unfold f_X11_trust
      refine qa_fn_eq ?_ (by simp)
      simp (disch := omega) [ev_X11_trust_0, ev_X11_trust_1, B_X11_trust_0, B_X11_trust_1, x_const, x_iadd, x_isub, x_imul, x_idiv, x_irem, x_ineg, x_dup, x_dup_x1, x_dup2, x_pop, x_goto, x_ifeq, x_ifne, x_iflt, x_ifge, x_ifgt, x_ifle, x_cmpeq, x_cmpne, x_cmplt, x_cmpge, x_cmpgt, x_cmple, x_null, x_nonnull, x_acmpeq, x_acmpne, x_get, x_put, x_putz, x_ald, x_ast, x_bast, x_zast, x_aast, x_alen, x_obj, x_ret, x_retz, x_vret, x_max, x_min, x_copy, x_i2l, qg_none, qg_inl, qg_inr, qg_ite, xr1, xr0, xrE, xri, xl0, xl1, xl2, xl3, xl4, xl5, xl6, xl7, xl8, xl9, xl10, xs0, xs1, xs2, xs3, xs4, xs5, xs6, xs7, xs8, xs9, xs10, xi0, xi1, xi2, xi3, xi4, xi5, xi6, xi7, xi8, xi9, xi10, xc0, xc1, xc2, xc3, xc4, xc5, xc6, xc7, xv1, xv2, xv3, xv4, xv5, xv6, xv7, dT_le, dF_le, dT_lt, dF_lt, hx, ne, kr, v5, v6, x_i2f, x_fdiv]
  · rw [if_neg h] at ne
    rw [zA1_1 h, zAnsT_1]
    unfold f_X11_trust
    refine qa_fn_eq ?_ (by simp)
    simp (disch := omega) [ev_X11_trust_0, ev_X11_trust_1, B_X11_trust_0, B_X11_trust_1, x_const, x_iadd, x_isub, x_imul, x_idiv, x_irem, x_ineg, x_dup, x_dup_x1, x_dup2, x_pop, x_goto, x_ifeq, x_ifne, x_iflt, x_ifge, x_ifgt, x_ifle, x_cmpeq, x_cmpne, x_cmplt, x_cmpge, x_cmpgt, x_cmple, x_null, x_nonnull, x_acmpeq, x_acmpne, x_get, x_put, x_putz, x_ald, x_ast, x_bast, x_zast, x_aast, x_alen, x_obj, x_ret, x_retz, x_vret, x_max, x_min, x_copy, x_i2l, qg_none, qg_inl, qg_inr, qg_ite, xr1, xr0, xrE, xri, xl0, xl1, xl2, xl3, xl4, xl5, xl6, xl7, xl8, xl9, xl10, xs0, xs1, xs2, xs3, xs4, xs5, xs6, xs7, xs8, xs9, xs10, xi0, xi1, xi2, xi3, xi4, xi5, xi6, xi7, xi8, xi9, xi10, xc0, xc1, xc2, xc3, xc4, xc5, xc6, xc7, xv1, xv2, xv3, xv4, xv5, xv6, xv7, dT_le, dF_le, dT_lt, dF_lt, hx, ne]
theorem mq_mean {m : Int → Int → Int} {kd : Int → Nat × Int} {w : Nat × Nat × Nat} {A : zA} (hK : KM kd) (hR : RM m) (hQ : QR A (m 79)) {M : Int} (hW : zW M A) (b : Int) : f_X12_mean [(1, 77), (0, b)] (m, kd, w) = mAnsT 4 (zA1 (zBl A b) (vMean A b)) m kd w := by
  have ni := m_isBranch (w := w) hK hR hQ b
  have hRt : ∀ t, RM (qa_up m 77 0 t) := fun t => by rw [RM_t]; exact hR
  have hQt : ∀ t, QR A ((qa_up m 77 0 t) 79) := fun t => hQ
  obtain ⟨k77, k78, k79, k80, k81, k82, k83, k84, k85, k86, k87, k88, k89, k90⟩ := id hK
  obtain ⟨r1, r2, r3, r4, r6, r7, r8, r12, r13, r15, r23, r25, r26⟩ := id hR
  obtain ⟨g0, g1, gC, gI, gB, gJ, gR, gD, gE⟩ := id hQ
  by_cases h : zBl A b
  · rw [if_pos h] at ni
    rw [zA1_v h, mAnsT_e]
    have hbn := hW.bn h
    have hs := zSumV_b hW h
    obtain ⟨b1, b2, b3⟩ := id h
    obtain ⟨u1, u2, u3⟩ := gB b b1 b2 b3
    unfold vMean
    by_cases hc : A.2.1 b 5 ≤ A.2.1 b 4
    · rw [if_pos hc]
      have u2' : m 79 (6 + 7 * b + 2) = 0 := by omega
      unfold f_X12_mean
      refine qa_fn_eq ?_ (by simp)
      simp (disch := omega) [ev_X12_mean_0, ev_X12_mean_1, ev_X12_mean_2, ev_X12_mean_3, ev_X12_mean_4, ev_X12_mean_6, B_X12_mean_0, B_X12_mean_1, B_X12_mean_2, B_X12_mean_3, B_X12_mean_4, B_X12_mean_5, B_X12_mean_6, x_const, x_iadd, x_isub, x_imul, x_idiv, x_irem, x_ineg, x_dup, x_dup_x1, x_dup2, x_pop, x_goto, x_ifeq, x_ifne, x_iflt, x_ifge, x_ifgt, x_ifle, x_cmpeq, x_cmpne, x_cmplt, x_cmpge, x_cmpgt, x_cmple, x_null, x_nonnull, x_acmpeq, x_acmpne, x_get, x_put, x_putz, x_ald, x_ast, x_bast, x_zast, x_aast, x_alen, x_obj, x_ret, x_retz, x_vret, x_max, x_min, x_copy, x_i2l, qg_none, qg_inl, qg_inr, qg_ite, xr1, xr0, xrE, xri, xl0, xl1, xl2, xl3, xl4, xl5, xl6, xl7, xl8, xl9, xl10, xs0, xs1, xs2, xs3, xs4, xs5, xs6, xs7, xs8, xs9, xs10, xi0, xi1, xi2, xi3, xi4, xi5, xi6, xi7, xi8, xi9, xi10, xc0, xc1, xc2, xc3, xc4, xc5, xc6, xc7, xv1, xv2, xv3, xv4, xv5, xv6, xv7, dT_le, dF_le, dT_lt, dF_lt, dT_eq, dF_eq, qa_up_hit, qa_up_no, k77, ni, m_ofBranch hK (hRt 0), u2']
    · rw [if_neg hc]
      have loop : ∀ (n : Nat) (k s : Int), 0 ≤ k → k + n = A.2.1 b 5 - A.2.1 b 4 → -99 * k ≤ s → s ≤ 99 * k → s + zsf (fun q => A.2.2.2 b q 3) (A.2.1 b 4 + k) n = zSumV A b → qa_ev P_X12_mean 5 [(1, 77), (0, b), (0, s), (0, k)] [] (qa_up m 77 0 0, kd, w) = some (.inl (some (4, zdd (zSumV A b) (A.2.1 b 5 - A.2.1 b 4))), (qa_up m 77 0 0, kd, w)) := by
        intro n
        induction n with
        | zero =>
          intro k s h1 h2 h3 h4 h5
          simp only [zsf, Int.add_zero] at h5
          rw [h5]
          rw [ev_X12_mean_5]
          simp (disch := omega) [ev_X12_mean_0, ev_X12_mean_1, ev_X12_mean_2, ev_X12_mean_3, ev_X12_mean_4, ev_X12_mean_6, B_X12_mean_0, B_X12_mean_1, B_X12_mean_2, B_X12_mean_3, B_X12_mean_4, B_X12_mean_5, B_X12_mean_6, x_const, x_iadd, x_isub, x_imul, x_idiv, x_irem, x_ineg, x_dup, x_dup_x1, x_dup2, x_pop, x_goto, x_ifeq, x_ifne, x_iflt, x_ifge, x_ifgt, x_ifle, x_cmpeq, x_cmpne, x_cmplt, x_cmpge, x_cmpgt, x_cmple, x_null, x_nonnull, x_acmpeq, x_acmpne, x_get, x_put, x_putz, x_ald, x_ast, x_bast, x_zast, x_aast, x_alen, x_obj, x_ret, x_retz, x_vret, x_max, x_min, x_copy, x_i2l, qg_none, qg_inl, qg_inr, qg_ite, xr1, xr0, xrE, xri, xl0, xl1, xl2, xl3, xl4, xl5, xl6, xl7, xl8, xl9, xl10, xs0, xs1, xs2, xs3, xs4, xs5, xs6, xs7, xs8, xs9, xs10, xi0, xi1, xi2, xi3, xi4, xi5, xi6, xi7, xi8, xi9, xi10, xc0, xc1, xc2, xc3, xc4, xc5, xc6, xc7, xv1, xv2, xv3, xv4, xv5, xv6, xv7, dT_le, dF_le, dT_lt, dF_lt, dT_eq, dF_eq, qa_up_hit, qa_up_no, k77, m_ofBranch hK (hRt 0), u2, x_i2d, x_ddiv]
        | succ n ih =>
          intro k s h1 h2 h3 h4 h5
          have he := hW.2.2.2.2.2.2.1 b (A.2.1 b 4 + k) b1 b2 b3 (by omega) (by omega)
          have ra1 := m_valueOf (w := w) hK (hRt 0) (hQt 0) (k := k) h (by omega) (by omega) (by omega) he
          obtain ⟨q1, q2, q3, q4, q5, q6, q7, q8⟩ := id he
          have ih' := ih (k + 1) (s + A.2.2.2 b (A.2.1 b 4 + k) 3) (by omega) (by omega) (by omega) (by omega) (by
            rw [← h5]
            simp only [zsf]
            rw [show A.2.1 b 4 + (k + 1) = A.2.1 b 4 + k + 1 by omega]
            omega)
          rw [ev_X12_mean_5]
          simp (disch := omega) [ev_X12_mean_0, ev_X12_mean_1, ev_X12_mean_2, ev_X12_mean_3, ev_X12_mean_4, ev_X12_mean_6, B_X12_mean_0, B_X12_mean_1, B_X12_mean_2, B_X12_mean_3, B_X12_mean_4, B_X12_mean_5, B_X12_mean_6, x_const, x_iadd, x_isub, x_imul, x_idiv, x_irem, x_ineg, x_dup, x_dup_x1, x_dup2, x_pop, x_goto, x_ifeq, x_ifne, x_iflt, x_ifge, x_ifgt, x_ifle, x_cmpeq, x_cmpne, x_cmplt, x_cmpge, x_cmpgt, x_cmple, x_null, x_nonnull, x_acmpeq, x_acmpne, x_get, x_put, x_putz, x_ald, x_ast, x_bast, x_zast, x_aast, x_alen, x_obj, x_ret, x_retz, x_vret, x_max, x_min, x_copy, x_i2l, qg_none, qg_inl, qg_inr, qg_ite, xr1, xr0, xrE, xri, xl0, xl1, xl2, xl3, xl4, xl5, xl6, xl7, xl8, xl9, xl10, xs0, xs1, xs2, xs3, xs4, xs5, xs6, xs7, xs8, xs9, xs10, xi0, xi1, xi2, xi3, xi4, xi5, xi6, xi7, xi8, xi9, xi10, xc0, xc1, xc2, xc3, xc4, xc5, xc6, xc7, xv1, xv2, xv3, xv4, xv5, xv6, xv7, dT_le, dF_le, dT_lt, dF_lt, dT_eq, dF_eq, qa_up_hit, qa_up_no, k77, m_ofBranch hK (hRt 0), u2, ra1, ih']
      have lp := loop (A.2.1 b 5 - A.2.1 b 4).toNat 0 0 (by omega) (by omega) (by decide) (by omega) (by rw [Int.zero_add, Int.add_zero]; rfl)
      unfold f_X12_mean
      refine qa_fn_eq ?_ (by simp)
      simp (disch := omega) [ev_X12_mean_0, ev_X12_mean_1, ev_X12_mean_2, ev_X12_mean_3, ev_X12_mean_4, ev_X12_mean_6, B_X12_mean_0, B_X12_mean_1, B_X12_mean_2, B_X12_mean_3, B_X12_mean_4, B_X12_mean_5, B_X12_mean_6, x_const, x_iadd, x_isub, x_imul, x_idiv, x_irem, x_ineg, x_dup, x_dup_x1, x_dup2, x_pop, x_goto, x_ifeq, x_ifne, x_iflt, x_ifge, x_ifgt, x_ifle, x_cmpeq, x_cmpne, x_cmplt, x_cmpge, x_cmpgt, x_cmple, x_null, x_nonnull, x_acmpeq, x_acmpne, x_get, x_put, x_putz, x_ald, x_ast, x_bast, x_zast, x_aast, x_alen, x_obj, x_ret, x_retz, x_vret, x_max, x_min, x_copy, x_i2l, qg_none, qg_inl, qg_inr, qg_ite, xr1, xr0, xrE, xri, xl0, xl1, xl2, xl3, xl4, xl5, xl6, xl7, xl8, xl9, xl10, xs0, xs1, xs2, xs3, xs4, xs5, xs6, xs7, xs8, xs9, xs10, xi0, xi1, xi2, xi3, xi4, xi5, xi6, xi7, xi8, xi9, xi10, xc0, xc1, xc2, xc3, xc4, xc5, xc6, xc7, xv1, xv2, xv3, xv4, xv5, xv6, xv7, dT_le, dF_le, dT_lt, dF_lt, dT_eq, dF_eq, qa_up_hit, qa_up_no, dF_eq, k77, ni, m_ofBranch hK (hRt 0), u2, lp]
  · rw [if_neg h] at ni
    rw [zA1_1 h, mAnsT_e]
    unfold f_X12_mean
    refine qa_fn_eq ?_ (by simp)
    simp (disch := omega) [ev_X12_mean_0, ev_X12_mean_1, ev_X12_mean_2, ev_X12_mean_3, ev_X12_mean_4, ev_X12_mean_6, B_X12_mean_0, B_X12_mean_1, B_X12_mean_2, B_X12_mean_3, B_X12_mean_4, B_X12_mean_5, B_X12_mean_6, x_const, x_iadd, x_isub, x_imul, x_idiv, x_irem, x_ineg, x_dup, x_dup_x1, x_dup2, x_pop, x_goto, x_ifeq, x_ifne, x_iflt, x_ifge, x_ifgt, x_ifle, x_cmpeq, x_cmpne, x_cmplt, x_cmpge, x_cmpgt, x_cmple, x_null, x_nonnull, x_acmpeq, x_acmpne, x_get, x_put, x_putz, x_ald, x_ast, x_bast, x_zast, x_aast, x_alen, x_obj, x_ret, x_retz, x_vret, x_max, x_min, x_copy, x_i2l, qg_none, qg_inl, qg_inr, qg_ite, xr1, xr0, xrE, xri, xl0, xl1, xl2, xl3, xl4, xl5, xl6, xl7, xl8, xl9, xl10, xs0, xs1, xs2, xs3, xs4, xs5, xs6, xs7, xs8, xs9, xs10, xi0, xi1, xi2, xi3, xi4, xi5, xi6, xi7, xi8, xi9, xi10, xc0, xc1, xc2, xc3, xc4, xc5, xc6, xc7, xv1, xv2, xv3, xv4, xv5, xv6, xv7, dT_le, dF_le, dT_lt, dF_lt, dT_eq, dF_eq, qa_up_hit, qa_up_no, k77, ni]
theorem mq_trust {m : Int → Int → Int} {kd : Int → Nat × Int} {w : Nat × Nat × Nat} {A : zA} (hK : KM kd) (hR : RM m) (hQ : QR A (m 79)) {M : Int} (hW : zW M A) (r : Int) : ∃ v, f_X12_trust [(1, 77), (0, r)] (m, kd, w) = mAnsT 3 ((zA1 (zRl A r) v).1, v) m kd w ∧ N32 v ∧ (zRl A r → v = vTrust A r) := by
  have ni := m_isReader (w := w) hK hR hQ r
  have hRt : ∀ t, RM (qa_up m 77 0 t) := fun t => by rw [RM_t]; exact hR
  obtain ⟨k77, k78, k79, k80, k81, k82, k83, k84, k85, k86, k87, k88, k89, k90⟩ := id hK
  obtain ⟨r1, r2, r3, r4, r6, r7, r8, r12, r13, r15, r23, r25, r26⟩ := id hR
  obtain ⟨g0, g1, gC, gI, gB, gJ, gR, gD, gE⟩ := id hQ
  by_cases h : zRl A r
  · refine ⟨vTrust A r, ?_, vTrust_N hW h, fun _ => rfl⟩
    rw [if_pos h] at ni
    rw [zA1_v h, mAnsT_e]
    have hrn := hW.rn h
    have tn := hW.tn
    obtain ⟨s1, s2, s3⟩ := id h
    have v5 := gR r 5 s1 s2 s3 (by decide) (by decide)
    have v6 := gR r 6 s1 s2 s3 (by decide) (by decide)
    unfold vTrust
    by_cases hc : A.2.2.1 r 5 + A.2.2.1 r 6 = 0
    · rw [if_pos hc]
      unfold f_X12_trust
      refine qa_fn_eq ?_ (by simp)
      simp (disch := omega) [ev_X12_trust_0, ev_X12_trust_1, ev_X12_trust_2, ev_X12_trust_3, ev_X12_trust_4, ev_X12_trust_5, B_X12_trust_0, B_X12_trust_1, B_X12_trust_2, B_X12_trust_3, B_X12_trust_4, B_X12_trust_5, x_const, x_iadd, x_isub, x_imul, x_idiv, x_irem, x_ineg, x_dup, x_dup_x1, x_dup2, x_pop, x_goto, x_ifeq, x_ifne, x_iflt, x_ifge, x_ifgt, x_ifle, x_cmpeq, x_cmpne, x_cmplt, x_cmpge, x_cmpgt, x_cmple, x_null, x_nonnull, x_acmpeq, x_acmpne, x_get, x_put, x_putz, x_ald, x_ast, x_bast, x_zast, x_aast, x_alen, x_obj, x_ret, x_retz, x_vret, x_max, x_min, x_copy, x_i2l, qg_none, qg_inl, qg_inr, qg_ite, xr1, xr0, xrE, xri, xl0, xl1, xl2, xl3, xl4, xl5, xl6, xl7, xl8, xl9, xl10, xs0, xs1, xs2, xs3, xs4, xs5, xs6, xs7, xs8, xs9, xs10, xi0, xi1, xi2, xi3, xi4, xi5, xi6, xi7, xi8, xi9, xi10, xc0, xc1, xc2, xc3, xc4, xc5, xc6, xc7, xv1, xv2, xv3, xv4, xv5, xv6, xv7, dT_le, dF_le, dT_lt, dF_lt, dT_eq, dF_eq, qa_up_hit, qa_up_no, k77, ni, m_ofReader hK (hRt 0), v5, v6, hc]
    · rw [if_neg hc]
      unfold f_X12_trust
      refine qa_fn_eq ?_ (by simp)
      simp (disch := omega) [ev_X12_trust_0, ev_X12_trust_1, ev_X12_trust_2, ev_X12_trust_3, ev_X12_trust_4, ev_X12_trust_5, B_X12_trust_0, B_X12_trust_1, B_X12_trust_2, B_X12_trust_3, B_X12_trust_4, B_X12_trust_5, x_const, x_iadd, x_isub, x_imul, x_idiv, x_irem, x_ineg, x_dup, x_dup_x1, x_dup2, x_pop, x_goto, x_ifeq, x_ifne, x_iflt, x_ifge, x_ifgt, x_ifle, x_cmpeq, x_cmpne, x_cmplt, x_cmpge, x_cmpgt, x_cmple, x_null, x_nonnull, x_acmpeq, x_acmpne, x_get, x_put, x_putz, x_ald, x_ast, x_bast, x_zast, x_aast, x_alen, x_obj, x_ret, x_retz, x_vret, x_max, x_min, x_copy, x_i2l, qg_none, qg_inl, qg_inr, qg_ite, xr1, xr0, xrE, xri, xl0, xl1, xl2, xl3, xl4, xl5, xl6, xl7, xl8, xl9, xl10, xs0, xs1, xs2, xs3, xs4, xs5, xs6, xs7, xs8, xs9, xs10, xi0, xi1, xi2, xi3, xi4, xi5, xi6, xi7, xi8, xi9, xi10, xc0, xc1, xc2, xc3, xc4, xc5, xc6, xc7, xv1, xv2, xv3, xv4, xv5, xv6, xv7, dT_le, dF_le, dT_lt, dF_lt, dT_eq, dF_eq, qa_up_hit, qa_up_no, k77, ni, m_ofReader hK (hRt 0), v5, v6, hc, x_i2f, x_fdiv]
  · refine ⟨0, ?_, N32_0, fun z => absurd z h⟩
    rw [if_neg h] at ni
    rw [zA1_1 h, mAnsT_e]
    unfold f_X12_trust
    refine qa_fn_eq ?_ (by simp)
    simp (disch := omega) [ev_X12_trust_0, ev_X12_trust_1, ev_X12_trust_2, ev_X12_trust_3, ev_X12_trust_4, ev_X12_trust_5, B_X12_trust_0, B_X12_trust_1, B_X12_trust_2, B_X12_trust_3, B_X12_trust_4, B_X12_trust_5, x_const, x_iadd, x_isub, x_imul, x_idiv, x_irem, x_ineg, x_dup, x_dup_x1, x_dup2, x_pop, x_goto, x_ifeq, x_ifne, x_iflt, x_ifge, x_ifgt, x_ifle, x_cmpeq, x_cmpne, x_cmplt, x_cmpge, x_cmpgt, x_cmple, x_null, x_nonnull, x_acmpeq, x_acmpne, x_get, x_put, x_putz, x_ald, x_ast, x_bast, x_zast, x_aast, x_alen, x_obj, x_ret, x_retz, x_vret, x_max, x_min, x_copy, x_i2l, qg_none, qg_inl, qg_inr, qg_ite, xr1, xr0, xrE, xri, xl0, xl1, xl2, xl3, xl4, xl5, xl6, xl7, xl8, xl9, xl10, xs0, xs1, xs2, xs3, xs4, xs5, xs6, xs7, xs8, xs9, xs10, xi0, xi1, xi2, xi3, xi4, xi5, xi6, xi7, xi8, xi9, xi10, xc0, xc1, xc2, xc3, xc4, xc5, xc6, xc7, xv1, xv2, xv3, xv4, xv5, xv6, xv7, dT_le, dF_le, dT_lt, dF_lt, dT_eq, dF_eq, qa_up_hit, qa_up_no, k77, ni]
