theorem zMv_n {A : zA} {b p sh k r : Int} (h : r ≠ k) (j : Int) : (zMv A b p sh (k + 1)).2.2.1 r j = (zMv A b p sh k).2.2.1 r j := by
  by_cases e : r < k ∧ zIn A r b
  · rw [zMv_y A j e, zMv_y A j ⟨by omega, e.2⟩]
  · rw [zMv_o A j e, zMv_o A j (fun z => e ⟨by omega, z.2⟩)]
theorem zMv_no {A : zA} {b p sh k : Int} (h : ¬ zIn A k b) : zMv A b p sh (k + 1) = zMv A b p sh k := by
  have : (zMv A b p sh (k + 1)).2.2.1 = (zMv A b p sh k).2.2.1 := by
    funext r j
    by_cases e : r = k
    · subst e
      rw [zMv_o A j (fun z => h z.2), zMv_o A j (fun z => h z.2)]
    · exact zMv_n e j
  show (A.1, A.2.1, (zMv A b p sh (k + 1)).2.2.1, A.2.2.2) = (A.1, A.2.1, (zMv A b p sh k).2.2.1, A.2.2.2)
  rw [this]
theorem zMv_at (A : zA) (b p sh k j : Int) : (zMv A b p sh k).2.2.1 k j = A.2.2.1 k j := zMv_o A j (fun z => by omega)
theorem c_mergeUp {m : Int → Int → Int} {kd : Int → Nat × Int} {w : Nat × Nat × Nat} {A : zA} {S : Int} (hK : KS kd S) (hC : RC A m kd S) {M : Int} (hW : zW M A) (hT : zT A) {b : Int} (hb : zBl A b) (hy : zWhyM A b = 0) (h5 : A.2.1 (A.2.1 b 2) 5 + (A.2.1 b 5 - zSt A b) ≤ 512) (hM : M + 512 < 500000) {st : Int → Int} {y z : Int} (hcr : CR st m kd y z) (hs : zS st) (hyf : (y < S ∨ S + 30 ≤ y) ∧ (z < S ∨ S + 30 ≤ z)) : ∃ m', f_X9_mergeUp [(1, S), (1, S + 4 + 2 * b), (1, y)] (m, kd, w) = some (.inl (some (0, A.2.1 b 5 - zSt A b)), (m', kd, w)) ∧ RC (zMrg st A b) m' kd S ∧ zfr m m' S := by
  obtain ⟨hp, hne, ⟨f0, s1, s2, s3⟩, hrd, w1, w2, w3, hp3, w4⟩ := zMrg_f st hW hT hb hy h5 hM
  obtain ⟨b1, b2, b3⟩ := id hb
  obtain ⟨p1, p2, p3⟩ := id hp
  have hbn := hW.bn hb
  have hpn := hW.bn hp
  obtain ⟨kN, kS, kC, kV, kW, kB, kE, kR, kD, kL⟩ := id hK
  have hpar := c_parentOf (w := w) hK hC b1 b2 p2
  rw [if_neg (by omega)] at hpar
  have hmx : (if A.2.1 b 3 < A.2.1 b 4 then A.2.1 b 4 else A.2.1 b 3) = zSt A b := by unfold zSt; split <;> split <;> omega
  generalize hpp : A.2.1 b 2 = p at *
  have hst : zSt A b = zSt A b := rfl
  have ecnt : ∃ cnt : Nat, (A.2.1 b 5 - zSt A b).toNat = cnt ∧ zSt A b + cnt = A.2.1 b 5 := ⟨_, rfl, by omega⟩
  obtain ⟨cnt, ec1, ec2⟩ := ecnt
  have e1 : zMg1 A b = zMg A b p (zSt A b) cnt := by unfold zMg1; rw [hpp, ec1]
  have e2 : zMg2 A b = zMv (zMg1 A b) b p (A.2.1 p 5 - zSt A b) 6 := by unfold zMg2; rw [hpp]
  generalize zSt A b = s0 at *
  have l1 : ∀ (q k : Nat) (m' : Int → Int → Int), k + q = cnt → RC (zMg A b p s0 k) m' kd S → ∃ m'', qa_ev P_X9_mergeUp 1 [(1, S), (1, S + 4 + 2 * b), (1, y), (1, S + 4 + 2 * p), (0, s0), (0, A.2.1 p 5 - s0), (0, s0 + k), (9, 0), (9, 0), (9, 0)] [] (m', kd, w) = qa_ev P_X9_mergeUp 2 [(1, S), (1, S + 4 + 2 * b), (1, y), (1, S + 4 + 2 * p), (0, s0), (0, A.2.1 p 5 - s0), (0, A.2.1 b 5), (9, 0), (9, 0), (9, 0)] [] (m'', kd, w) ∧ RC (zMg A b p s0 cnt) m'' kd S ∧ zfr m' m'' S := by
    intro q
    induction q with
    | zero =>
      intro k m' h1 hC'
      obtain rfl : k = cnt := by omega
      obtain ⟨i1, i2, i3, i4, i5, i6, i7⟩ := zMg_f hW hb hp hne s1 k (by omega) (by omega) (by omega)
      have t5 : m' (S + 4 + 2 * b) 5 = A.2.1 b 5 := by rw [hC'.2.2.2.2.1 b 5 b1 b2 (by decide) (by decide)]; exact i2 b hne 5
      have kb := kB b b1 b2
      refine ⟨m', ?_, hC', zfr.refl _ _⟩
      rw [ev_X9_mergeUp_1]
      simp (disch := omega) [ev_X9_mergeUp_0, ev_X9_mergeUp_3, ev_X9_mergeUp_4, ev_X9_mergeUp_5, B_X9_mergeUp_0, B_X9_mergeUp_1, B_X9_mergeUp_2, B_X9_mergeUp_3, B_X9_mergeUp_4, B_X9_mergeUp_5, x_const, x_iadd, x_isub, x_imul, x_idiv, x_irem, x_ineg, x_dup, x_dup_x1, x_dup2, x_pop, x_goto, x_ifeq, x_ifne, x_iflt, x_ifge, x_ifgt, x_ifle, x_cmpeq, x_cmpne, x_cmplt, x_cmpge, x_cmpgt, x_cmple, x_null, x_nonnull, x_acmpeq, x_acmpne, x_get, x_put, x_putz, x_ald, x_ast, x_bast, x_zast, x_aast, x_alen, x_obj, x_ret, x_retz, x_vret, x_max, x_min, x_copy, x_i2l, qg_none, qg_inl, qg_inr, qg_ite, xr1, xr0, xrE, xri, xl0, xl1, xl2, xl3, xl4, xl5, xl6, xl7, xl8, xl9, xl10, xs0, xs1, xs2, xs3, xs4, xs5, xs6, xs7, xs8, xs9, xs10, xi0, xi1, xi2, xi3, xi4, xi5, xi6, xi7, xi8, xi9, xi10, xc0, xc1, xc2, xc3, xc4, xc5, xc6, xc7, xv1, xv2, xv3, xv4, xv5, xv6, xv7, dT_le, dF_le, dT_lt, dF_lt, kb, t5]
      rw [ec2]
    | succ q ih =>
      intro k m' h1 hC'
      obtain ⟨i1, i2, i3, i4, i5, i6, i7⟩ := zMg_f hW hb hp hne s1 k (by omega) (by omega) (by omega)
      have t5 : m' (S + 4 + 2 * b) 5 = A.2.1 b 5 := by rw [hC'.2.2.2.2.1 b 5 b1 b2 (by decide) (by decide)]; exact i2 b hne 5
      have kb := kB b b1 b2
      have kp := kB p p1 p2
      have hbk : zBl (zMg A b p s0 k) b := ⟨b1, b2, by rw [i2 b hne]; exact b3⟩
      have hpk : zBl (zMg A b p s0 k) p := ⟨p1, p2, by rw [i5 1 (by decide) (by decide)]; exact p3⟩
      obtain ⟨e, he1, he2, -⟩ := c_entryAt (w := w) (p := s0 + k) hK hC' i1 hbk
      obtain ⟨q1, q2, q3⟩ := he2 ⟨by rw [i2 b hne]; omega, by rw [i2 b hne]; omega⟩
      have hwe := hW.2.2.2.2.2.2.1 b (s0 + k) b1 b2 b3 (by omega) (by omega)
      unfold zWe at hwe
      obtain ⟨m1, j1, j2, j3⟩ := c_addB (w := w) (t := A.2.2.2 b (s0 + k) 0) (k := A.2.2.2 b (s0 + k) 1) (s := A.2.2.2 b (s0 + k) 2) (v := A.2.2.2 b (s0 + k) 3) (e := e) hK hC' i1 hpk (by rw [i4]; omega) q1 (fun j a1 a2 => by
        rw [q3 j a1 a2, i3 b hne]
        have : j = 0 ∨ j = 1 ∨ j = 2 ∨ j = 3 := by omega
        rcases this with rfl | rfl | rfl | rfl <;> simp) ⟨by omega, by omega⟩
      obtain ⟨m2, g1, g2, g3⟩ := ih (k + 1) m1 (by omega) j2
      refine ⟨m2, ?_, g2, j3.trans g3⟩
      have ek : s0 + ((k + 1 : Nat) : Int) = s0 + k + 1 := by omega
      rw [ek] at g1
      rw [ev_X9_mergeUp_1]
      simp (disch := omega) [ev_X9_mergeUp_0, ev_X9_mergeUp_3, ev_X9_mergeUp_4, ev_X9_mergeUp_5, B_X9_mergeUp_0, B_X9_mergeUp_1, B_X9_mergeUp_2, B_X9_mergeUp_3, B_X9_mergeUp_4, B_X9_mergeUp_5, x_const, x_iadd, x_isub, x_imul, x_idiv, x_irem, x_ineg, x_dup, x_dup_x1, x_dup2, x_pop, x_goto, x_ifeq, x_ifne, x_iflt, x_ifge, x_ifgt, x_ifle, x_cmpeq, x_cmpne, x_cmplt, x_cmpge, x_cmpgt, x_cmple, x_null, x_nonnull, x_acmpeq, x_acmpne, x_get, x_put, x_putz, x_ald, x_ast, x_bast, x_zast, x_aast, x_alen, x_obj, x_ret, x_retz, x_vret, x_max, x_min, x_copy, x_i2l, qg_none, qg_inl, qg_inr, qg_ite, xr1, xr0, xrE, xri, xl0, xl1, xl2, xl3, xl4, xl5, xl6, xl7, xl8, xl9, xl10, xs0, xs1, xs2, xs3, xs4, xs5, xs6, xs7, xs8, xs9, xs10, xi0, xi1, xi2, xi3, xi4, xi5, xi6, xi7, xi8, xi9, xi10, xc0, xc1, xc2, xc3, xc4, xc5, xc6, xc7, xv1, xv2, xv3, xv4, xv5, xv6, xv7, dT_le, dF_le, dT_lt, dF_lt, kb, kp, q1, t5, he1, j1, g1]
  obtain ⟨m1, a1, a2, a3⟩ := l1 cnt 0 m (by omega) hC
  rw [← e1] at a2
  have hb1 : ∀ r, (zMg1 A b).2.2.1 r = A.2.2.1 r := fun r => by
    rw [e1]; rw [(zMg_f hW hb hp hne s1 cnt (by omega) (by omega) (by omega)).2.2.2.2.2.2]
  have l2 : ∀ (n : Nat) (k : Int) (l : qV) (m' : Int → Int → Int), 0 ≤ k → k + n = 6 → RC (zMv (zMg1 A b) b p (A.2.1 p 5 - s0) k) m' kd S → ∃ m'' l', qa_ev P_X9_mergeUp 3 [(1, S), (1, S + 4 + 2 * b), (1, y), (1, S + 4 + 2 * p), (0, s0), (0, A.2.1 p 5 - s0), (1, S + 3), (0, 6), (0, k), l] [] (m', kd, w) = qa_ev P_X9_mergeUp 5 [(1, S), (1, S + 4 + 2 * b), (1, y), (1, S + 4 + 2 * p), (0, s0), (0, A.2.1 p 5 - s0), (1, S + 3), (0, 6), (0, 6), l'] [] (m'', kd, w) ∧ RC (zMv (zMg1 A b) b p (A.2.1 p 5 - s0) 6) m'' kd S ∧ zfr m' m'' S := by
    intro n
    induction n with
    | zero =>
      intro k l m' h1 h2 hC'
      obtain rfl : k = 6 := by omega
      refine ⟨m', l, ?_, hC', zfr.refl _ _⟩
      rw [ev_X9_mergeUp_3]
      simp (disch := omega) [ev_X9_mergeUp_0, ev_X9_mergeUp_2, ev_X9_mergeUp_4, B_X9_mergeUp_0, B_X9_mergeUp_1, B_X9_mergeUp_2, B_X9_mergeUp_3, B_X9_mergeUp_4, B_X9_mergeUp_5, x_const, x_iadd, x_isub, x_imul, x_idiv, x_irem, x_ineg, x_dup, x_dup_x1, x_dup2, x_pop, x_goto, x_ifeq, x_ifne, x_iflt, x_ifge, x_ifgt, x_ifle, x_cmpeq, x_cmpne, x_cmplt, x_cmpge, x_cmpgt, x_cmple, x_null, x_nonnull, x_acmpeq, x_acmpne, x_get, x_put, x_putz, x_ald, x_ast, x_bast, x_zast, x_aast, x_alen, x_obj, x_ret, x_retz, x_vret, x_max, x_min, x_copy, x_i2l, qg_none, qg_inl, qg_inr, qg_ite, xr1, xr0, xrE, xri, xl0, xl1, xl2, xl3, xl4, xl5, xl6, xl7, xl8, xl9, xl10, xs0, xs1, xs2, xs3, xs4, xs5, xs6, xs7, xs8, xs9, xs10, xi0, xi1, xi2, xi3, xi4, xi5, xi6, xi7, xi8, xi9, xi10, xc0, xc1, xc2, xc3, xc4, xc5, xc6, xc7, xv1, xv2, xv3, xv4, xv5, xv6, xv7, dT_le, dF_le, dT_lt, dF_lt]
    | succ n ih =>
      intro k l m' h1 h2 hC'
      obtain ⟨⟨f2, f3, f4, fV, fW, f0', f8, f9, f7⟩, c0, c1, cC, cB, cR, cD, cL, cE⟩ := id hC'
      have hk := kR k h1 (by omega)
      have hi := c_isIn (m := m') (w := w) hk (kB b b1 b2)
      have t0 : m' (S + 12 + 3 * k) 0 = A.2.2.1 k 0 := by rw [cR k 0 h1 (by omega) (by decide) (by decide), zMv_at, hb1]
      have t1 : m' (S + 12 + 3 * k) 1 = A.2.2.1 k 1 := by rw [cR k 1 h1 (by omega) (by decide) (by decide), zMv_at, hb1]
      have t2 : m' (S + 12 + 3 * k) 2 = A.2.2.1 k 2 := by rw [cR k 2 h1 (by omega) (by decide) (by decide), zMv_at, hb1]
      rw [t0, t1, f0' b b1 b2] at hi
      have hw := fW k h1 (by omega)
      have hp0 := f0' p p1 p2
      have kp := kB p p1 p2
      have hin : zIn (zMg1 A b) k b ↔ zIn A k b := by unfold zIn zRl; rw [hb1]
      have hrt := hW.rt (r := k) h1 (by omega)
      by_cases hz : zIn A k b
      · have ht := hz.1.2.2
        have hr2 := hrd k hz
        have hr3 := hW.rn hz.1
        rw [if_neg (by omega), if_pos hz.2] at hi
        have hC2 : RC (zMv (zMg1 A b) b p (A.2.1 p 5 - s0) (k + 1)) (qa_up (qa_up m' (S + 12 + 3 * k) 1 p) (S + 12 + 3 * k) 2 (A.2.2.1 k 2 + (A.2.1 p 5 - s0))) kd S := by
          refine RC_rd hK hC' (k := k) (R' := (zMv (zMg1 A b) b p (A.2.1 p 5 - s0) (k + 1)).2.2.1) h1 (by omega) (fun c c1 c2 c3 => ?_) ?_ ?_ (fun r j hr => zMv_n hr j) (fun j j1 j2 => ?_) (fun _ j j1 j2 => ?_) (fun _ j j1 j2 => ?_)
          · funext i
            rw [qa_up_no _ (fun z => c1 z.1), qa_up_no _ (fun z => c1 z.1)]
          · rw [qa_up_no _ (by omega), qa_up_no _ (by omega)]; exact f9 k h1 (by omega)
          · rw [qa_up_no _ (by omega), qa_up_no _ (by omega)]; exact f7 k h1 (by omega)
          · rw [zMv_y _ _ ⟨by omega, hin.mpr hz⟩, hb1]
            unfold qa_up
            by_cases j1' : j = 1
            · subst j1'; simp
            · by_cases j2' : j = 2
              · subst j2'; simp
              · simp only [j1', j2', and_false, if_false]
                rw [cR k j h1 (by omega) j1 j2, zMv_at, hb1]
          · rw [qa_up_no _ (by omega), qa_up_no _ (by omega), zMv_j _ (by omega) (by omega), hb1]
            have := cD k j h1 (by omega) (by rw [zMv_at, hb1]; exact ht) j1 j2
            rw [zMv_at, hb1] at this
            exact this
          · rw [qa_up_no _ (by omega), qa_up_no _ (by omega), zMv_j _ (by omega) (by omega), hb1]
            have := cL k j h1 (by omega) (by rw [zMv_at, hb1]; exact ht) j1 j2
            rw [zMv_at, hb1] at this
            exact this
        obtain ⟨m2, l', g1, g2, g3⟩ := ih (k + 1) (1, S + 12 + 3 * k) _ (by omega) (by omega) hC2
        refine ⟨m2, l', ?_, g2, zfr.trans (fun c hc => ?_) g3⟩
        · rw [ev_X9_mergeUp_3]
          simp (disch := omega) [ev_X9_mergeUp_0, ev_X9_mergeUp_2, ev_X9_mergeUp_4, B_X9_mergeUp_0, B_X9_mergeUp_1, B_X9_mergeUp_2, B_X9_mergeUp_3, B_X9_mergeUp_4, B_X9_mergeUp_5, x_const, x_iadd, x_isub, x_imul, x_idiv, x_irem, x_ineg, x_dup, x_dup_x1, x_dup2, x_pop, x_goto, x_ifeq, x_ifne, x_iflt, x_ifge, x_ifgt, x_ifle, x_cmpeq, x_cmpne, x_cmplt, x_cmpge, x_cmpgt, x_cmple, x_null, x_nonnull, x_acmpeq, x_acmpne, x_get, x_put, x_putz, x_ald, x_ast, x_bast, x_zast, x_aast, x_alen, x_obj, x_ret, x_retz, x_vret, x_max, x_min, x_copy, x_i2l, qg_none, qg_inl, qg_inr, qg_ite, xr1, xr0, xrE, xri, xl0, xl1, xl2, xl3, xl4, xl5, xl6, xl7, xl8, xl9, xl10, xs0, xs1, xs2, xs3, xs4, xs5, xs6, xs7, xs8, xs9, xs10, xi0, xi1, xi2, xi3, xi4, xi5, xi6, xi7, xi8, xi9, xi10, xc0, xc1, xc2, xc3, xc4, xc5, xc6, xc7, xv1, xv2, xv3, xv4, xv5, xv6, xv7, dT_le, dF_le, dT_lt, dF_lt, dT_eq, dF_eq, qa_up_hit, qa_up_no, kW, hw, hk, hi, kp, hp0, t2, g1]
        · funext i
          rw [qa_up_no _ (by omega), qa_up_no _ (by omega)]
      · have hC2 : RC (zMv (zMg1 A b) b p (A.2.1 p 5 - s0) (k + 1)) m' kd S := by rw [zMv_no (fun z => hz (hin.mp z))]; exact hC'
        have hi0 : (if A.2.2.1 k 0 = 0 then 0 else if A.2.2.1 k 1 = b then 1 else 0 : Int) = 0 := by
          by_cases e0 : A.2.2.1 k 0 = 0
          · rw [if_pos e0]
          · rw [if_neg e0, if_neg (fun e => hz ⟨⟨h1, by omega, by omega⟩, e⟩)]
        rw [hi0] at hi
        obtain ⟨m2, l', g1, g2, g3⟩ := ih (k + 1) (1, S + 12 + 3 * k) _ (by omega) (by omega) hC2
        refine ⟨m2, l', ?_, g2, g3⟩
        rw [ev_X9_mergeUp_3]
        simp (disch := omega) [ev_X9_mergeUp_0, ev_X9_mergeUp_2, ev_X9_mergeUp_4, B_X9_mergeUp_0, B_X9_mergeUp_1, B_X9_mergeUp_2, B_X9_mergeUp_3, B_X9_mergeUp_4, B_X9_mergeUp_5, x_const, x_iadd, x_isub, x_imul, x_idiv, x_irem, x_ineg, x_dup, x_dup_x1, x_dup2, x_pop, x_goto, x_ifeq, x_ifne, x_iflt, x_ifge, x_ifgt, x_ifle, x_cmpeq, x_cmpne, x_cmplt, x_cmpge, x_cmpgt, x_cmple, x_null, x_nonnull, x_acmpeq, x_acmpne, x_get, x_put, x_putz, x_ald, x_ast, x_bast, x_zast, x_aast, x_alen, x_obj, x_ret, x_retz, x_vret, x_max, x_min, x_copy, x_i2l, qg_none, qg_inl, qg_inr, qg_ite, xr1, xr0, xrE, xri, xl0, xl1, xl2, xl3, xl4, xl5, xl6, xl7, xl8, xl9, xl10, xs0, xs1, xs2, xs3, xs4, xs5, xs6, xs7, xs8, xs9, xs10, xi0, xi1, xi2, xi3, xi4, xi5, xi6, xi7, xi8, xi9, xi10, xc0, xc1, xc2, xc3, xc4, xc5, xc6, xc7, xv1, xv2, xv3, xv4, xv5, xv6, xv7, dT_le, dF_le, dT_lt, dF_lt, dT_eq, dF_eq, qa_up_hit, qa_up_no, kW, hw, hk, hi, g1]
  obtain ⟨m2, l', d1, d2, d3⟩ := l2 6 0 (9, 0) m1 (by decide) (by decide) (by rw [zMv_0]; exact a2)
  rw [← e2] at d2
  obtain ⟨r1, r2⟩ := RC_drop (b := b) hK d2 ⟨b1, b2⟩
  have hcr3 : CR st (qa_up m2 (S + 4 + 2 * b) 1 0) kd y z := by
    obtain ⟨y1, y2, y3, y4⟩ := hcr
    have ff := (a3.trans d3).trans r2
    refine ⟨y1, ?_, y3, fun i q1 q2 => ?_⟩
    · rw [ff y (by omega)]; exact y2
    · rw [ff z (by omega)]; exact y4 i q1 q2
  obtain ⟨m4, g1, g2, g3⟩ := c_cutBehind (w := w) hK r1 w3 (by omega) hcr3 hs hyf hp3
  have kb := kB b b1 b2
  have kp := kB p p1 p2
  have t3 : m (S + 4 + 2 * b) 3 = A.2.1 b 3 := hC.2.2.2.2.1 b 3 b1 b2 (by decide) (by decide)
  have t4 : m (S + 4 + 2 * b) 4 = A.2.1 b 4 := hC.2.2.2.2.1 b 4 b1 b2 (by decide) (by decide)
  have t5 : m (S + 4 + 2 * p) 5 = A.2.1 p 5 := hC.2.2.2.2.1 p 5 p1 p2 (by decide) (by decide)
  have u4 : m1 S 4 = S + 3 := a2.1.2.2.1
  have k0 := (zW_cutB st w3 hp3).2
  have k5 : (zCutB st p (zDrop (zMg2 A b) b)).2.1 b 5 = (zDrop (zMg2 A b) b).2.1 b 5 := k0.2.2.1 b 5 (by decide) (by decide) (by decide)
  have t45 : m4 (S + 4 + 2 * b) 5 = A.2.1 b 5 := by
    rw [g2.2.2.2.2.1 b 5 b1 b2 (by decide) (by decide), k5]
    rw [zDrop_j _ (by decide), e2]
    show (zMg1 A b).2.1 b 5 = _
    rw [e1]
    exact (zMg_f hW hb hp hne s1 cnt (by omega) (by omega) (by omega)).2.1 b hne 5
  have eM : zMrg st A b = zCutB st p (zDrop (zMg2 A b) b) := by unfold zMrg zMg3; rw [hpp]
  rw [eM]
  simp only [Int.natCast_zero, Int.add_zero] at a1
  refine ⟨m4, ?_, g2, ((a3.trans d3).trans r2).trans g3⟩
  unfold f_X9_mergeUp
  refine qa_fn_eq ?_ (by simp)
  simp (disch := omega) [ev_X9_mergeUp_0, ev_X9_mergeUp_2, ev_X9_mergeUp_4, ev_X9_mergeUp_5, B_X9_mergeUp_0, B_X9_mergeUp_1, B_X9_mergeUp_2, B_X9_mergeUp_3, B_X9_mergeUp_4, B_X9_mergeUp_5, x_const, x_iadd, x_isub, x_imul, x_idiv, x_irem, x_ineg, x_dup, x_dup_x1, x_dup2, x_pop, x_goto, x_ifeq, x_ifne, x_iflt, x_ifge, x_ifgt, x_ifle, x_cmpeq, x_cmpne, x_cmplt, x_cmpge, x_cmpgt, x_cmple, x_null, x_nonnull, x_acmpeq, x_acmpne, x_get, x_put, x_putz, x_ald, x_ast, x_bast, x_zast, x_aast, x_alen, x_obj, x_ret, x_retz, x_vret, x_max, x_min, x_copy, x_i2l, qg_none, qg_inl, qg_inr, qg_ite, xr1, xr0, xrE, xri, xl0, xl1, xl2, xl3, xl4, xl5, xl6, xl7, xl8, xl9, xl10, xs0, xs1, xs2, xs3, xs4, xs5, xs6, xs7, xs8, xs9, xs10, xi0, xi1, xi2, xi3, xi4, xi5, xi6, xi7, xi8, xi9, xi10, xc0, xc1, xc2, xc3, xc4, xc5, xc6, xc7, xv1, xv2, xv3, xv4, xv5, xv6, xv7, dT_le, dF_le, dT_lt, dF_lt, dT_eq, dF_eq, qa_up_hit, qa_up_no, kS, kb, kp, kW, hpar, t3, t4, hmx, t5, a1, u4, d1, g1, t45]
theorem ca_merge {m : Int → Int → Int} {kd : Int → Nat × Int} {n c s : Nat} {um S : Int} {U SV : Int → zA} {A : zA} {M : Int} (hS : CS um U SV A m kd n S) (hW : zW M A) (ha : ∀ i, 0 ≤ i → i ≤ 10 → 0 ≤ m 65 i ∧ m 65 i < 100000000) (hT : zT A) {st : Int → Int} (hcr : CR st m kd 1 2) (hs : zS st) {b : Int} (hb : zBl A b) (h5 : zWhyM A b = 0 → A.2.1 (A.2.1 b 2) 5 + (A.2.1 b 5 - zSt A b) ≤ 512) (hM : M + 512 < 500000) : (0 < zWhyM A b → cRef (zWhyM A b) m kd (n, c, s) (f_X11_merge [(1, 0), (0, b)] (m, kd, n, c, s))) ∧ (zWhyM A b = 0 → cDone um U SV A (zMrg st A b) (A.2.1 b 5 - zSt A b) m kd n c s S (f_X11_merge [(1, 0), (0, b)] (m, kd, n, c, s))) := by
  obtain ⟨hK, hC, hx, hn, h4, k64, h00, k1, x640, x65⟩ := hS.f
  have hS3 := hS.1
  have nb := c_needBranch (w := (n, c, s)) hK hC hW hx hn b
  rw [if_pos hb] at nb
  obtain ⟨b1, b2, b3⟩ := id hb
  have hbn := hW.bn hb
  have kS := hK.2.1
  have rs := c_reason (w := (n, c, s)) hK hC hW hx hn ⟨b1, b2⟩
  have ri := c_readersNotBehind (w := (n, c, s)) (p := A.2.1 b 3 - 1) hK hC hW ⟨b1, b2⟩
  have hwy := zWhyM_0 A b
  have kb := hK.2.2.2.2.2.1 b b1 b2
  have t3 : m (S + 4 + 2 * b) 3 = A.2.1 b 3 := hC.2.2.2.2.1 b 3 b1 b2 (by decide) (by decide)
  have hf3 : zWhy A b = 0 → 0 ≤ A.2.1 b 3 ∧ A.2.1 b 3 ≤ 512 := fun y1 => by
    obtain ⟨n0, nk⟩ := zWhy_n y1
    rcases zpar hT hb with ⟨z, _⟩ | ⟨_, hp, f0, f1⟩
    · exact absurd z n0
    · omega
  refine ⟨fun h => ?_, fun h => ?_⟩
  · rcases hwy with ⟨y1, y2⟩ | ⟨y1, y2, y3⟩ | ⟨y1, y2, y3⟩
    · rw [y1] at h ⊢
      rw [if_neg (by omega)] at rs
      have rf := c_refuse (w := (n, c, s)) (r := zWhy A b) k64 x640 x65 (by omega) (ha _ (by omega) (by omega))
      refine ⟨by omega, by omega, ?_⟩
      generalize zWhy A b = y at y2 rs rf h ⊢
      unfold f_X11_merge
      refine qa_fn_eq ?_ (by simp)
      simp (disch := omega) [ev_X11_merge_0, ev_X11_merge_1, ev_X11_merge_2, B_X11_merge_0, B_X11_merge_1, B_X11_merge_2, x_const, x_iadd, x_isub, x_imul, x_idiv, x_irem, x_ineg, x_dup, x_dup_x1, x_dup2, x_pop, x_goto, x_ifeq, x_ifne, x_iflt, x_ifge, x_ifgt, x_ifle, x_cmpeq, x_cmpne, x_cmplt, x_cmpge, x_cmpgt, x_cmple, x_null, x_nonnull, x_acmpeq, x_acmpne, x_get, x_put, x_putz, x_ald, x_ast, x_bast, x_zast, x_aast, x_alen, x_obj, x_ret, x_retz, x_vret, x_max, x_min, x_copy, x_i2l, qg_none, qg_inl, qg_inr, qg_ite, xr1, xr0, xrE, xri, xl0, xl1, xl2, xl3, xl4, xl5, xl6, xl7, xl8, xl9, xl10, xs0, xs1, xs2, xs3, xs4, xs5, xs6, xs7, xs8, xs9, xs10, xi0, xi1, xi2, xi3, xi4, xi5, xi6, xi7, xi8, xi9, xi10, xc0, xc1, xc2, xc3, xc4, xc5, xc6, xc7, xv1, xv2, xv3, xv4, xv5, xv6, xv7, dT_le, dF_le, dT_lt, dF_lt, dF_eq, hx, hn, kS, h4, k64, nb, rs, rf]
    · rw [if_pos y1] at rs
      rw [y3] at h ⊢
      have rf := c_refuse (w := (n, c, s)) (r := 9) k64 x640 x65 (by omega) (ha _ (by omega) (by omega))
      have f3 := hf3 y1
      refine ⟨by omega, by omega, ?_⟩
      unfold f_X11_merge
      refine qa_fn_eq ?_ (by simp)
      simp (disch := omega) [ev_X11_merge_0, ev_X11_merge_1, ev_X11_merge_2, B_X11_merge_0, B_X11_merge_1, B_X11_merge_2, x_const, x_iadd, x_isub, x_imul, x_idiv, x_irem, x_ineg, x_dup, x_dup_x1, x_dup2, x_pop, x_goto, x_ifeq, x_ifne, x_iflt, x_ifge, x_ifgt, x_ifle, x_cmpeq, x_cmpne, x_cmplt, x_cmpge, x_cmpgt, x_cmple, x_null, x_nonnull, x_acmpeq, x_acmpne, x_get, x_put, x_putz, x_ald, x_ast, x_bast, x_zast, x_aast, x_alen, x_obj, x_ret, x_retz, x_vret, x_max, x_min, x_copy, x_i2l, qg_none, qg_inl, qg_inr, qg_ite, xr1, xr0, xrE, xri, xl0, xl1, xl2, xl3, xl4, xl5, xl6, xl7, xl8, xl9, xl10, xs0, xs1, xs2, xs3, xs4, xs5, xs6, xs7, xs8, xs9, xs10, xi0, xi1, xi2, xi3, xi4, xi5, xi6, xi7, xi8, xi9, xi10, xc0, xc1, xc2, xc3, xc4, xc5, xc6, xc7, xv1, xv2, xv3, xv4, xv5, xv6, xv7, dT_le, dF_le, dT_lt, dF_lt, hx, hn, kS, h4, k64, nb, rs, kb, t3, ri, rf]
    · omega
  · rcases hwy with ⟨y1, y2⟩ | ⟨y1, y2, y3⟩ | ⟨y1, y2, y3⟩
    · omega
    · omega
    · rw [if_pos y1] at rs
      have f3 := hf3 y1
      obtain ⟨m1, kd1, n1, c1, s1, i1, i2, i3, i4, i5, i6, i7, i8, i9⟩ := c_begS (c := c) (s := s) hS hW (ha 0 (by decide) (by decide))
      obtain ⟨hK1, hC1, hx1, hn1, h41, k641, h001, k11, -⟩ := i2.f
      have hcr1 := zfx_CR i3 hcr
      obtain ⟨m2, j1, j2, j3⟩ := c_mergeUp (w := (n1, c1, s1)) hK1 hC1 hW hT hb h (h5 h) hM hcr1 hs ⟨Or.inl (by omega), Or.inl (by omega)⟩
      obtain ⟨g1, g2, g3, g4⟩ := CS_now i2 j3 j2
      have kS1 := hK1.2.1
      refine ⟨m2, kd1, n1, c1, s1, ?_, g1, i3.trans g2, fun i => by rw [g3]; exact i4 i, by rw [g4]; omega, by rw [g4]; omega, i7, i8, i9⟩
      unfold f_X11_merge
      refine qa_fn_eq ?_ (by simp; exact ⟨i7, i8, i9⟩)
      simp (disch := omega) [ev_X11_merge_0, ev_X11_merge_1, ev_X11_merge_2, B_X11_merge_0, B_X11_merge_1, B_X11_merge_2, x_const, x_iadd, x_isub, x_imul, x_idiv, x_irem, x_ineg, x_dup, x_dup_x1, x_dup2, x_pop, x_goto, x_ifeq, x_ifne, x_iflt, x_ifge, x_ifgt, x_ifle, x_cmpeq, x_cmpne, x_cmplt, x_cmpge, x_cmpgt, x_cmple, x_null, x_nonnull, x_acmpeq, x_acmpne, x_get, x_put, x_putz, x_ald, x_ast, x_bast, x_zast, x_aast, x_alen, x_obj, x_ret, x_retz, x_vret, x_max, x_min, x_copy, x_i2l, qg_none, qg_inl, qg_inr, qg_ite, xr1, xr0, xrE, xri, xl0, xl1, xl2, xl3, xl4, xl5, xl6, xl7, xl8, xl9, xl10, xs0, xs1, xs2, xs3, xs4, xs5, xs6, xs7, xs8, xs9, xs10, xi0, xi1, xi2, xi3, xi4, xi5, xi6, xi7, xi8, xi9, xi10, xc0, xc1, xc2, xc3, xc4, xc5, xc6, xc7, xv1, xv2, xv3, xv4, xv5, xv6, xv7, dT_le, dF_le, dT_lt, dF_lt, dT_eq, dF_eq, qa_up_hit, qa_up_no, hx, hn, h4, k64, hx1, hn1, h001, kS, kS1, nb, rs, kb, t3, ri, y2, i1, j1]
