def zRk (A : zA) (b k : Int) : Int → Int → Int := fun r j => if r < k ∧ zLow A r b then zOwe A b r j else A.2.2.1 r j
theorem zRk_at (A : zA) (b k j : Int) : zRk A b k k j = A.2.2.1 k j := by
  unfold zRk
  rw [if_neg (by omega)]
theorem zRk_ne {A : zA} {b k r : Int} (h : r ≠ k) (j : Int) : zRk A b (k + 1) r j = zRk A b k r j := by
  unfold zRk
  by_cases h1 : r < k
  · by_cases h2 : zLow A r b
    · rw [if_pos ⟨by omega, h2⟩, if_pos ⟨h1, h2⟩]
    · rw [if_neg (fun z => h2 z.2), if_neg (fun z => h2 z.2)]
  · rw [if_neg (by omega), if_neg (by omega)]
theorem zRk_no {A : zA} {b k : Int} (h : ¬ zLow A k b) : zRk A b (k + 1) = zRk A b k := by
  funext r j
  by_cases e : r = k
  · subst e
    unfold zRk
    rw [if_neg (fun z => h z.2), if_neg (by omega)]
  · exact zRk_ne e j
theorem zRk_yes {A : zA} {b k : Int} (h : zLow A k b) (j : Int) : zRk A b (k + 1) k j = zOwe A b k j := by
  unfold zRk
  rw [if_pos ⟨by omega, h⟩]
theorem zRk_all {A : zA} {b : Int} : zRk A b 6 = (zCutO A b).2.2.1 := by
  funext r j
  unfold zRk zCutO
  simp only
  by_cases h : zLow A r b
  · rw [if_pos ⟨h.1.1.2.1, h⟩, if_pos h]
  · rw [if_neg (fun z => h z.2), if_neg h]
theorem zOwe_key {A : zA} {b r j : Int} (h : 0 ≤ j) : zOwe A b r (16 + j) = if j = A.2.2.2 b (A.2.1 b 4) 1 then A.2.2.2 b (A.2.1 b 4) 3 else A.2.2.1 r (16 + j) := by
  unfold zOwe
  rw [if_neg (by omega), if_neg (by omega), if_neg (by omega), if_neg (by omega), if_neg (by omega), if_neg (by omega), if_neg (by omega), if_neg (by omega)]
  by_cases e : j = A.2.2.2 b (A.2.1 b 4) 1
  · rw [if_pos e, if_pos (by omega)]
  · rw [if_neg e, if_neg (by omega)]
theorem c_cutOne {m : Int → Int → Int} {kd : Int → Nat × Int} {w : Nat × Nat × Nat} {A : zA} {S : Int} (hK : KS kd S) (hC : RC A m kd S) {M : Int} (hW : zW M A) {b : Int} (hb : zBl A b) (hp : A.2.1 b 4 < A.2.1 b 5) : ∃ m', f_X9_cutOne [(1, S), (1, S + 4 + 2 * b)] (m, kd, w) = some (.inl none, (m', kd, w)) ∧ RC (zCutO A b) m' kd S ∧ zfr m m' S := by
  obtain ⟨b1, b2, b3⟩ := id hb
  obtain ⟨n1, n2, n3, n4, n5, n6, n7⟩ := hW.bn hb
  obtain ⟨q1, q2, q3, q4, q5, q6, q7, q8⟩ := hW.2.2.2.2.2.2.1 b _ b1 b2 b3 (Int.le_refl _) hp
  obtain ⟨he, hE⟩ := hC.2.2.2.2.2.2.2.2 b _ b1 b2 b3 (Int.le_refl _) hp
  have hne := hK.ne1 he
  have hfar := hK.entry he
  generalize hee : m (S + 5 + 2 * b) (A.2.1 b 4) = e at he hE hne hfar
  have loop : ∀ (n : Nat) (k : Int) (mk : Int → Int → Int) (l7 : qV), 0 ≤ k → k + n = 6 → RC (A.1, (zCutO A b).2.1, zRk A b k, A.2.2.2) mk kd S → zfr m mk S → ∃ m', qa_ev P_X9_cutOne 2 [(1, S), (1, S + 4 + 2 * b), (0, A.2.1 b 4), (1, e), (1, S + 3), (0, 6), (0, k), l7] [] (mk, kd, w) = some (.inl none, (m', kd, w)) ∧ RC (A.1, (zCutO A b).2.1, zRk A b 6, A.2.2.2) m' kd S ∧ zfr m m' S := by
    intro n
    induction n with
    | zero =>
      intro k mk l7 h1 h2 hCk hfk
      obtain rfl : k = 6 := by omega
      refine ⟨mk, ?_, hCk, hfk⟩
      rw [ev_X9_cutOne_2]
      simp (disch := omega) [ev_X9_cutOne_0, ev_X9_cutOne_1, ev_X9_cutOne_3, ev_X9_cutOne_4, B_X9_cutOne_0, B_X9_cutOne_1, B_X9_cutOne_2, B_X9_cutOne_3, B_X9_cutOne_4, x_const, x_iadd, x_isub, x_imul, x_idiv, x_irem, x_ineg, x_dup, x_dup_x1, x_dup2, x_pop, x_goto, x_ifeq, x_ifne, x_iflt, x_ifge, x_ifgt, x_ifle, x_cmpeq, x_cmpne, x_cmplt, x_cmpge, x_cmpgt, x_cmple, x_null, x_nonnull, x_acmpeq, x_acmpne, x_get, x_put, x_putz, x_ald, x_ast, x_bast, x_zast, x_aast, x_alen, x_obj, x_ret, x_retz, x_vret, x_max, x_min, x_copy, x_i2l, qg_none, qg_inl, qg_inr, qg_ite, xr1, xr0, xrE, xri, xl0, xl1, xl2, xl3, xl4, xl5, xl6, xl7, xl8, xl9, xl10, xs0, xs1, xs2, xs3, xs4, xs5, xs6, xs7, xs8, xs9, xs10, xi0, xi1, xi2, xi3, xi4, xi5, xi6, xi7, xi8, xi9, xi10, xc0, xc1, xc2, xc3, xc4, xc5, xc6, xc7, xv1, xv2, xv3, xv4, xv5, xv6, xv7, dT_le, dF_le, dT_lt, dF_lt]
    | succ n ih =>
      intro k mk l7 h1 h2 hCk hfk
      obtain ⟨⟨f2, f3, f4, fV, fW, f0, f8, f9, f7⟩, e0, e1, eC, eB, eR, eD, eL, eE⟩ := id hCk
      obtain ⟨kN, kS, kC, kV, kW, kB, kE, kR, kD, kL⟩ := id hK
      have hi := c_isIn (m := mk) (w := w) (kR k h1 (by omega)) (kB b b1 b2)
      have gR : ∀ j, 0 ≤ j → j ≤ 8 → mk (S + 12 + 3 * k) j = A.2.2.1 k j := fun j j1 j2 => by rw [eR k j h1 (by omega) j1 j2]; exact zRk_at A b k j
      have gE : ∀ j, 0 ≤ j → j < 4 → mk e j = A.2.2.2 b (A.2.1 b 4) j := fun j j1 j2 => by rw [hfk e hfar]; exact hE j j1 j2
      have gB : mk (S + 4 + 2 * b) 4 = A.2.1 b 4 + 1 := by rw [eB b 4 b1 b2 (by decide) (by decide)]; simp [zCutO]
      by_cases ht : A.2.2.1 k 0 = 1
      · obtain ⟨t1, t2, t3, t4, t5, t6, t7, t8, t9⟩ := hW.rn ⟨h1, by omega, ht⟩
        by_cases hin : A.2.2.1 k 1 = b
        · by_cases hpl : A.2.2.1 k 2 ≤ A.2.1 b 4
          · have hlow : zLow A k b := ⟨⟨⟨h1, by omega, ht⟩, hin⟩, hpl⟩
            have gD : ∀ j, 0 ≤ j → j ≤ 6 → mk (S + 13 + 3 * k) j = A.2.2.1 k (9 + j) := fun j j1 j2 => by rw [eD k j h1 (by omega) (by show zRk A b k k 0 = 1; rw [zRk_at]; exact ht) j1 j2]; exact zRk_at A b k _
            have gL : ∀ j, 0 ≤ j → j < 10 → mk (S + 14 + 3 * k) j = A.2.2.1 k (16 + j) := fun j j1 j2 => by rw [eL k j h1 (by omega) (by show zRk A b k k 0 = 1; rw [zRk_at]; exact ht) j1 j2]; exact zRk_at A b k _
            obtain ⟨d1, d2, d3, d4, d5, d6, d7⟩ := hW.2.2.2.2.2.2.2.2 k h1 (by omega) ht
            have dM : A.2.2.1 k 9 ≤ 500000 := by
              have w0 := hW.1.2.1
              have w7 := hW.2.2.1
              have := zlive_pos hW
              omega
            have ha := c_add (m := mk) (w := w) (d := S + 13 + 3 * k) (e := e) (p := A.2.1 b 4) (l := S + 14 + 3 * k) (kD k h1 (by omega)) he (f7 k h1 (by omega)) (kL k h1 (by omega)) (by rw [gD 0 (by decide) (by decide)]; simp; omega) (by rw [gD 1 (by decide) (by decide)]; simp; omega) (by rw [gD 2 (by decide) (by decide)]; simp; omega) (by rw [gE 1 (by decide) (by decide)]; omega) (by rw [gE 2 (by decide) (by decide)]; omega) (by rw [gE 3 (by decide) (by decide)]; omega)
            have z1 : ∀ c, c ≠ S + 13 + 3 * k → c ≠ S + 14 + 3 * k → zAddM mk (S + 13 + 3 * k) e (A.2.1 b 4) c = mk c := fun c c1 c2 => by
              funext i
              unfold zAddM
              rw [if_neg c1, if_neg (fun z => c2 (z.1.trans (f7 k h1 (by omega))))]
            have hnew : RC (A.1, (zCutO A b).2.1, zRk A b (k + 1), A.2.2.2) (qa_up (zAddM mk (S + 13 + 3 * k) e (A.2.1 b 4)) (S + 12 + 3 * k) 2 (A.2.1 b 4 + 1)) kd S := by
              refine RC_rd hK hCk (R' := zRk A b (k + 1)) h1 (by omega) ?_ ?_ ?_ ?_ ?_ ?_ ?_
              · intro c c1 c2 c3
                rw [← z1 c c2 c3]
                funext i
                exact qa_up_no _ (fun z => c1 z.1)
              · rw [qa_up_no _ (by omega), z1 _ (by omega) (by omega)]
                exact f9 k h1 (by omega)
              · rw [qa_up_no _ (by omega)]
                unfold zAddM
                simp
                exact f7 k h1 (by omega)
              · intro r j hr
                exact zRk_ne hr j
              · intro j j1 j2
                rw [zRk_yes hlow]
                by_cases j3 : j = 2
                · subst j3
                  rw [qa_up_hit, zOwe_2]
                · rw [qa_up_no _ (by omega), z1 _ (by omega) (by omega), gR j j1 j2, zOwe_lt (by omega) j3 q3]
              · intro _ j j1 j2
                rw [zRk_yes hlow, qa_up_no _ (by omega)]
                have : j = 0 ∨ j = 1 ∨ j = 2 ∨ j = 3 ∨ j = 4 ∨ j = 5 ∨ j = 6 := by omega
                have g0 := gD 0 (by decide) (by decide)
                have g1 := gD 1 (by decide) (by decide)
                have g2 := gD 2 (by decide) (by decide)
                have g3 := gD 3 (by decide) (by decide)
                have g4 := gD 4 (by decide) (by decide)
                have g5 := gD 5 (by decide) (by decide)
                have v2 := gE 2 (by decide) (by decide)
                have v3 := gE 3 (by decide) (by decide)
                simp at g0 g1 g2 g3 g4 g5
                rcases this with rfl | rfl | rfl | rfl | rfl | rfl | rfl <;> simp [zAddM, zOwe, g0, g1, g2, g3, g4, g5, v2, v3]
              · intro _ j j1 j2
                rw [zRk_yes hlow, qa_up_no _ (by omega)]
                have v1 := gE 1 (by decide) (by decide)
                have v3 := gE 3 (by decide) (by decide)
                unfold zAddM
                rw [zOwe_key j1, if_neg (by omega), gL j j1 j2, f7 k h1 (by omega), v1, v3]
                by_cases hj : j = A.2.2.2 b (A.2.1 b 4) 1
                · rw [if_pos ⟨rfl, hj⟩, if_pos hj]
                · rw [if_neg (fun z => hj z.2), if_neg hj]
            have hfn : zfr m (qa_up (zAddM mk (S + 13 + 3 * k) e (A.2.1 b 4)) (S + 12 + 3 * k) 2 (A.2.1 b 4 + 1)) S := fun c hc => by
              rw [← hfk c hc, ← z1 c (by omega) (by omega)]
              funext i
              exact qa_up_no _ (fun z => by omega)
            obtain ⟨m', i1, i2, i3⟩ := ih (k + 1) _ (1, S + 12 + 3 * k) (by omega) (by omega) hnew hfn
            refine ⟨m', ?_, i2, i3⟩
            rw [ev_X9_cutOne_2]
            have gB2 : zAddM mk (S + 13 + 3 * k) e (A.2.1 b 4) (S + 4 + 2 * b) 4 = A.2.1 b 4 + 1 := by rw [z1 _ (by omega) (by omega)]; exact gB
            simp (disch := omega) [ev_X9_cutOne_0, ev_X9_cutOne_1, ev_X9_cutOne_3, ev_X9_cutOne_4, B_X9_cutOne_0, B_X9_cutOne_1, B_X9_cutOne_2, B_X9_cutOne_3, B_X9_cutOne_4, x_const, x_iadd, x_isub, x_imul, x_idiv, x_irem, x_ineg, x_dup, x_dup_x1, x_dup2, x_pop, x_goto, x_ifeq, x_ifne, x_iflt, x_ifge, x_ifgt, x_ifle, x_cmpeq, x_cmpne, x_cmplt, x_cmpge, x_cmpgt, x_cmple, x_null, x_nonnull, x_acmpeq, x_acmpne, x_get, x_put, x_putz, x_ald, x_ast, x_bast, x_zast, x_aast, x_alen, x_obj, x_ret, x_retz, x_vret, x_max, x_min, x_copy, x_i2l, qg_none, qg_inl, qg_inr, qg_ite, xr1, xr0, xrE, xri, xl0, xl1, xl2, xl3, xl4, xl5, xl6, xl7, xl8, xl9, xl10, xs0, xs1, xs2, xs3, xs4, xs5, xs6, xs7, xs8, xs9, xs10, xi0, xi1, xi2, xi3, xi4, xi5, xi6, xi7, xi8, xi9, xi10, xc0, xc1, xc2, xc3, xc4, xc5, xc6, xc7, xv1, xv2, xv3, xv4, xv5, xv6, xv7, dT_le, dF_le, dT_lt, dF_lt, fW, f0, f9, kW, kR, kB, kD, hi, gR, ht, hin, hpl, ha, gB2, i1]
          · obtain ⟨m', i1, i2, i3⟩ := ih (k + 1) mk (1, S + 12 + 3 * k) (by omega) (by omega) (by rw [zRk_no (fun z => hpl z.2)]; exact hCk) hfk
            refine ⟨m', ?_, i2, i3⟩
            rw [ev_X9_cutOne_2]
            simp (disch := omega) [ev_X9_cutOne_0, ev_X9_cutOne_1, ev_X9_cutOne_3, ev_X9_cutOne_4, B_X9_cutOne_0, B_X9_cutOne_1, B_X9_cutOne_2, B_X9_cutOne_3, B_X9_cutOne_4, x_const, x_iadd, x_isub, x_imul, x_idiv, x_irem, x_ineg, x_dup, x_dup_x1, x_dup2, x_pop, x_goto, x_ifeq, x_ifne, x_iflt, x_ifge, x_ifgt, x_ifle, x_cmpeq, x_cmpne, x_cmplt, x_cmpge, x_cmpgt, x_cmple, x_null, x_nonnull, x_acmpeq, x_acmpne, x_get, x_put, x_putz, x_ald, x_ast, x_bast, x_zast, x_aast, x_alen, x_obj, x_ret, x_retz, x_vret, x_max, x_min, x_copy, x_i2l, qg_none, qg_inl, qg_inr, qg_ite, xr1, xr0, xrE, xri, xl0, xl1, xl2, xl3, xl4, xl5, xl6, xl7, xl8, xl9, xl10, xs0, xs1, xs2, xs3, xs4, xs5, xs6, xs7, xs8, xs9, xs10, xi0, xi1, xi2, xi3, xi4, xi5, xi6, xi7, xi8, xi9, xi10, xc0, xc1, xc2, xc3, xc4, xc5, xc6, xc7, xv1, xv2, xv3, xv4, xv5, xv6, xv7, dT_le, dF_le, dT_lt, dF_lt, fW, f0, f9, kW, kR, kB, hi, gR, ht, hin, hpl, i1]
        · obtain ⟨m', i1, i2, i3⟩ := ih (k + 1) mk (1, S + 12 + 3 * k) (by omega) (by omega) (by rw [zRk_no (fun z => hin z.1.2)]; exact hCk) hfk
          refine ⟨m', ?_, i2, i3⟩
          rw [ev_X9_cutOne_2]
          simp (disch := omega) [ev_X9_cutOne_0, ev_X9_cutOne_1, ev_X9_cutOne_3, ev_X9_cutOne_4, B_X9_cutOne_0, B_X9_cutOne_1, B_X9_cutOne_2, B_X9_cutOne_3, B_X9_cutOne_4, x_const, x_iadd, x_isub, x_imul, x_idiv, x_irem, x_ineg, x_dup, x_dup_x1, x_dup2, x_pop, x_goto, x_ifeq, x_ifne, x_iflt, x_ifge, x_ifgt, x_ifle, x_cmpeq, x_cmpne, x_cmplt, x_cmpge, x_cmpgt, x_cmple, x_null, x_nonnull, x_acmpeq, x_acmpne, x_get, x_put, x_putz, x_ald, x_ast, x_bast, x_zast, x_aast, x_alen, x_obj, x_ret, x_retz, x_vret, x_max, x_min, x_copy, x_i2l, qg_none, qg_inl, qg_inr, qg_ite, xr1, xr0, xrE, xri, xl0, xl1, xl2, xl3, xl4, xl5, xl6, xl7, xl8, xl9, xl10, xs0, xs1, xs2, xs3, xs4, xs5, xs6, xs7, xs8, xs9, xs10, xi0, xi1, xi2, xi3, xi4, xi5, xi6, xi7, xi8, xi9, xi10, xc0, xc1, xc2, xc3, xc4, xc5, xc6, xc7, xv1, xv2, xv3, xv4, xv5, xv6, xv7, dT_le, dF_le, dT_lt, dF_lt, fW, f0, f9, kW, kR, kB, hi, gR, ht, hin, i1]
      · have ht0 : A.2.2.1 k 0 = 0 := by have := hW.rt (r := k) h1 (by omega); omega
        obtain ⟨m', i1, i2, i3⟩ := ih (k + 1) mk (1, S + 12 + 3 * k) (by omega) (by omega) (by rw [zRk_no (fun z => ht z.1.1.2.2)]; exact hCk) hfk
        refine ⟨m', ?_, i2, i3⟩
        rw [ev_X9_cutOne_2]
        simp (disch := omega) [ev_X9_cutOne_0, ev_X9_cutOne_1, ev_X9_cutOne_3, ev_X9_cutOne_4, B_X9_cutOne_0, B_X9_cutOne_1, B_X9_cutOne_2, B_X9_cutOne_3, B_X9_cutOne_4, x_const, x_iadd, x_isub, x_imul, x_idiv, x_irem, x_ineg, x_dup, x_dup_x1, x_dup2, x_pop, x_goto, x_ifeq, x_ifne, x_iflt, x_ifge, x_ifgt, x_ifle, x_cmpeq, x_cmpne, x_cmplt, x_cmpge, x_cmpgt, x_cmple, x_null, x_nonnull, x_acmpeq, x_acmpne, x_get, x_put, x_putz, x_ald, x_ast, x_bast, x_zast, x_aast, x_alen, x_obj, x_ret, x_retz, x_vret, x_max, x_min, x_copy, x_i2l, qg_none, qg_inl, qg_inr, qg_ite, xr1, xr0, xrE, xri, xl0, xl1, xl2, xl3, xl4, xl5, xl6, xl7, xl8, xl9, xl10, xs0, xs1, xs2, xs3, xs4, xs5, xs6, xs7, xs8, xs9, xs10, xi0, xi1, xi2, xi3, xi4, xi5, xi6, xi7, xi8, xi9, xi10, xc0, xc1, xc2, xc3, xc4, xc5, xc6, xc7, xv1, xv2, xv3, xv4, xv5, xv6, xv7, dT_le, dF_le, dT_lt, dF_lt, fW, f0, f9, kW, kR, kB, hi, gR, ht0, i1]
  obtain ⟨⟨f2, f3, f4, fV, fW, f0, f8, f9, f7⟩, e0, e1, eC, eB, eR, eD, eL, eE⟩ := id hC
  obtain ⟨kN, kS, kC, kV, kW, kB, kE, kR, kD, kL⟩ := id hK
  have hat := c_at (m := m) (w := w) (p := A.2.1 b 4) (kB b b1 b2) (f8 b b1 b2) (kE b b1 b2)
  have hcf := c_cutFirst (m := m) (w := w) (H := S + 4 + 2 * b) (e := e) (kB b b1 b2) he (by rw [eB b 6 b1 b2 (by decide) (by decide), hE 2 (by decide) (by decide)]; omega) (by rw [eB b 4 b1 b2 (by decide) (by decide)]; omega) (by rw [eB b 7 b1 b2 (by decide) (by decide)]; omega)
  obtain ⟨m', i1, i2, i3⟩ := loop 6 0 (qa_up (qa_up (qa_up m (S + 4 + 2 * b) 6 (m (S + 4 + 2 * b) 6 - m e 2)) (S + 4 + 2 * b) 4 (m (S + 4 + 2 * b) 4 + 1)) (S + 4 + 2 * b) 7 (m (S + 4 + 2 * b) 7 + 1)) (9, 0) (by decide) (by decide) (by
    have hz : zRk A b 0 = A.2.2.1 := by
      funext r j
      unfold zRk
      rw [if_neg (fun z => by have := z.2.1.1.1; omega)]
    rw [hz]
    refine RC_br hK hC (B' := (zCutO A b).2.1) b1 b2 ?_ ?_ ?_ ?_ ?_ ?_
    · intro c hc
      funext i
      rw [qa_up_no _ (fun z => hc z.1), qa_up_no _ (fun z => hc z.1), qa_up_no _ (fun z => hc z.1)]
    · rw [qa_up_no _ (by omega), qa_up_no _ (by omega), qa_up_no _ (by omega)]
      exact f0 b b1 b2
    · rw [qa_up_no _ (by omega), qa_up_no _ (by omega), qa_up_no _ (by omega)]
      exact f8 b b1 b2
    · intro b' j hne
      show (if b' = b then _ else _) = _
      rw [if_neg hne]
    · intro j j1 j2
      have u4 := eB b 4 b1 b2 (by decide) (by decide)
      have u6 := eB b 6 b1 b2 (by decide) (by decide)
      have u7 := eB b 7 b1 b2 (by decide) (by decide)
      have v2 := hE 2 (by decide) (by decide)
      by_cases j4 : j = 4
      · subst j4; simp (disch := omega) [dT_eq, dF_eq, qa_up_hit, qa_up_no, zCutO, u4]
      · by_cases j6 : j = 6
        · subst j6; simp (disch := omega) [dT_eq, dF_eq, qa_up_hit, qa_up_no, zCutO, u6, v2]
        · by_cases j7 : j = 7
          · subst j7; simp (disch := omega) [dT_eq, dF_eq, qa_up_hit, qa_up_no, zCutO, u7]
          · rw [qa_up_no _ (by omega), qa_up_no _ (by omega), qa_up_no _ (by omega), eB b j b1 b2 j1 j2]
            simp [zCutO, j4, j6, j7]
    · intro _
      simp [zCutO]
      exact ⟨b3, by omega⟩) (fun c hc => by
    funext i
    rw [qa_up_no _ (by omega), qa_up_no _ (by omega), qa_up_no _ (by omega)])
  refine ⟨m', ?_, by rw [zRk_all] at i2; exact i2, i3⟩
  simp (disch := omega) only [eB] at i1
  unfold f_X9_cutOne
  refine qa_fn_eq ?_ (by simp)
  simp (disch := omega) [ev_X9_cutOne_0, ev_X9_cutOne_1, ev_X9_cutOne_3, ev_X9_cutOne_4, B_X9_cutOne_0, B_X9_cutOne_1, B_X9_cutOne_2, B_X9_cutOne_3, B_X9_cutOne_4, x_const, x_iadd, x_isub, x_imul, x_idiv, x_irem, x_ineg, x_dup, x_dup_x1, x_dup2, x_pop, x_goto, x_ifeq, x_ifne, x_iflt, x_ifge, x_ifgt, x_ifle, x_cmpeq, x_cmpne, x_cmplt, x_cmpge, x_cmpgt, x_cmple, x_null, x_nonnull, x_acmpeq, x_acmpne, x_get, x_put, x_putz, x_ald, x_ast, x_bast, x_zast, x_aast, x_alen, x_obj, x_ret, x_retz, x_vret, x_max, x_min, x_copy, x_i2l, qg_none, qg_inl, qg_inr, qg_ite, xr1, xr0, xrE, xri, xl0, xl1, xl2, xl3, xl4, xl5, xl6, xl7, xl8, xl9, xl10, xs0, xs1, xs2, xs3, xs4, xs5, xs6, xs7, xs8, xs9, xs10, xi0, xi1, xi2, xi3, xi4, xi5, xi6, xi7, xi8, xi9, xi10, xc0, xc1, xc2, xc3, xc4, xc5, xc6, xc7, xv1, xv2, xv3, xv4, xv5, xv6, xv7, dT_le, dF_le, dT_lt, dF_lt, dT_eq, dF_eq, qa_up_hit, qa_up_no, f2, f3, f4, fV, fW, f0, f8, f9, f7, e0, e1, eC, eB, eR, kS, kC, kV, kW, kB, kE, kR, kD, kL, hat, hcf, hee, hne, hp, he, i1]
theorem c_cutBehind {m : Int → Int → Int} {kd : Int → Nat × Int} {w : Nat × Nat × Nat} {A : zA} {S : Int} (hK : KS kd S) (hC : RC A m kd S) {M : Int} (hW : zW M A) (hM : M < 500000) {st : Int → Int} {y z : Int} (hy : CR st m kd y z) (hs : zS st) (hyf : (y < S ∨ S + 30 ≤ y) ∧ (z < S ∨ S + 30 ≤ z)) {b : Int} (hb : zBl A b) : ∃ m', f_X9_cutBehind [(1, S), (1, S + 4 + 2 * b), (1, y)] (m, kd, w) = some (.inl (some (0, (zCutB st b A).2.1 b 7 - A.2.1 b 7)), (m', kd, w)) ∧ RC (zCutB st b A) m' kd S ∧ zfr m m' S := by
  have loop : ∀ (n : Nat) (A' : zA) (mk : Int → Int → Int) (l5 : qV), zW M A' → zBl A' b → RC A' mk kd S → zfr m mk S → A'.2.1 b 5 - A'.2.1 b 4 = n → ∃ m', qa_ev P_X9_cutBehind 1 [(1, S), (1, S + 4 + 2 * b), (1, y), (0, A.2.1 b 7), (0, (n : Int)), l5] [] (mk, kd, w) = some (.inl (some (0, (zCut st b n A').2.1 b 7 - A.2.1 b 7)), (m', kd, w)) ∧ RC (zCut st b n A') m' kd S ∧ zfr m m' S := by
    intro n
    induction n with
    | zero =>
      intro A' mk l5 hW' hb' hC' hf' hn
      obtain ⟨b1, b2, b3⟩ := id hb'
      obtain ⟨n1, n2, n3, n4, n5, n6, n7⟩ := hW'.bn hb'
      obtain ⟨v1, v2, v3, v4, v5, v6, v7⟩ := hW.bn hb
      refine ⟨mk, ?_, hC', hf'⟩
      obtain ⟨⟨f2, f3, f4, fV, fW, f0, f8, f9, f7⟩, e0, e1, eC, eB, eR, eD, eL, eE⟩ := id hC'
      obtain ⟨kN, kS, kC, kV, kW, kB, kE, kR, kD, kL⟩ := id hK
      rw [ev_X9_cutBehind_1]
      simp (disch := omega) [ev_X9_cutBehind_0, ev_X9_cutBehind_2, ev_X9_cutBehind_3, B_X9_cutBehind_0, B_X9_cutBehind_1, B_X9_cutBehind_2, B_X9_cutBehind_3, x_const, x_iadd, x_isub, x_imul, x_idiv, x_irem, x_ineg, x_dup, x_dup_x1, x_dup2, x_pop, x_goto, x_ifeq, x_ifne, x_iflt, x_ifge, x_ifgt, x_ifle, x_cmpeq, x_cmpne, x_cmplt, x_cmpge, x_cmpgt, x_cmple, x_null, x_nonnull, x_acmpeq, x_acmpne, x_get, x_put, x_putz, x_ald, x_ast, x_bast, x_zast, x_aast, x_alen, x_obj, x_ret, x_retz, x_vret, x_max, x_min, x_copy, x_i2l, qg_none, qg_inl, qg_inr, qg_ite, xr1, xr0, xrE, xri, xl0, xl1, xl2, xl3, xl4, xl5, xl6, xl7, xl8, xl9, xl10, xs0, xs1, xs2, xs3, xs4, xs5, xs6, xs7, xs8, xs9, xs10, xi0, xi1, xi2, xi3, xi4, xi5, xi6, xi7, xi8, xi9, xi10, xc0, xc1, xc2, xc3, xc4, xc5, xc6, xc7, xv1, xv2, xv3, xv4, xv5, xv6, xv7, dT_le, dF_le, dT_lt, dF_lt, f2, f3, f4, fV, fW, f0, f8, f9, f7, e0, e1, eC, eB, eR, kS, kC, kV, kW, kB, kE, kR, kD, kL, zCut]
    | succ n ih =>
      intro A' mk l5 hW' hb' hC' hf' hn
      obtain ⟨b1, b2, b3⟩ := id hb'
      obtain ⟨n1, n2, n3, n4, n5, n6, n7⟩ := hW'.bn hb'
      obtain ⟨v1, v2, v3, v4, v5, v6, v7⟩ := hW.bn hb
      have hy' : CR st mk kd y z := by
        obtain ⟨y1, y2, y3, y4⟩ := id hy
        refine ⟨y1, by rw [hf' _ hyf.1]; exact y2, y3, fun i i1 i2 => by rw [hf' _ hyf.2]; exact y4 i i1 i2⟩
      have hca := c_causeFor (w := w) hK hC' hW' hy' hs hb'
      have hcl := zcause_le A' st b
      obtain ⟨⟨f2, f3, f4, fV, fW, f0, f8, f9, f7⟩, e0, e1, eC, eB, eR, eD, eL, eE⟩ := id hC'
      obtain ⟨kN, kS, kC, kV, kW, kB, kE, kR, kD, kL⟩ := id hK
      by_cases hc : zCause A' st b = -1
      · refine ⟨mk, ?_, by simp only [zCut, hc]; exact hC', hf'⟩
        rw [ev_X9_cutBehind_1]
        simp (disch := omega) [ev_X9_cutBehind_0, ev_X9_cutBehind_2, ev_X9_cutBehind_3, B_X9_cutBehind_0, B_X9_cutBehind_1, B_X9_cutBehind_2, B_X9_cutBehind_3, x_const, x_iadd, x_isub, x_imul, x_idiv, x_irem, x_ineg, x_dup, x_dup_x1, x_dup2, x_pop, x_goto, x_ifeq, x_ifne, x_iflt, x_ifge, x_ifgt, x_ifle, x_cmpeq, x_cmpne, x_cmplt, x_cmpge, x_cmpgt, x_cmple, x_null, x_nonnull, x_acmpeq, x_acmpne, x_get, x_put, x_putz, x_ald, x_ast, x_bast, x_zast, x_aast, x_alen, x_obj, x_ret, x_retz, x_vret, x_max, x_min, x_copy, x_i2l, qg_none, qg_inl, qg_inr, qg_ite, xr1, xr0, xrE, xri, xl0, xl1, xl2, xl3, xl4, xl5, xl6, xl7, xl8, xl9, xl10, xs0, xs1, xs2, xs3, xs4, xs5, xs6, xs7, xs8, xs9, xs10, xi0, xi1, xi2, xi3, xi4, xi5, xi6, xi7, xi8, xi9, xi10, xc0, xc1, xc2, xc3, xc4, xc5, xc6, xc7, xv1, xv2, xv3, xv4, xv5, xv6, xv7, dT_le, dF_le, dT_lt, dF_lt, f2, f3, f4, fV, fW, f0, f8, f9, f7, e0, e1, eC, eB, eR, kS, kC, kV, kW, kB, kE, kR, kD, kL, hca, hc, zCut]
      · have hC1 : RC (zInc A' (zCause A' st b)) (qa_up mk (S + 1) (zCause A' st b) (A'.1 (2 + zCause A' st b) + 1)) kd S := by
          have := RC_num hK hC' (s := S + 1) (i := zCause A' st b) (k := 2 + zCause A' st b) (v := A'.1 (2 + zCause A' st b) + 1) (Or.inr ⟨rfl, rfl, by omega, by omega⟩)
          have e : (fun j => if j = 2 + zCause A' st b then A'.1 (2 + zCause A' st b) + 1 else A'.1 j, A'.2) = zInc A' (zCause A' st b) := by
            unfold zInc
            congr 1
            funext j
            by_cases h : j = 2 + zCause A' st b <;> simp [h]
          rw [e] at this
          exact this
        have hb1 : zBl (zInc A' (zCause A' st b)) b := hb'
        obtain ⟨m1, i1, i2, i3⟩ := c_cutOne (w := w) hK hC1 (zW_inc hW' (by omega) hM) hb1 (hcl.2.2 hc)
        have hf1 : zfr m m1 S := fun c h => by
          rw [i3 c h, ← hf' c h]
          funext i
          exact qa_up_no _ (by omega)
        have hp := hcl.2.2 hc
        have hf5 : (zCut1 A' b (zCause A' st b)).2.1 b 5 - (zCut1 A' b (zCause A' st b)).2.1 b 4 = n := by
          rw [zCut1_B1 _ _ _ _ (by decide) (by decide) (by decide), zCut1_B4, if_pos rfl]
          push_cast at hn
          omega
        obtain ⟨m2, j1, j2, j3⟩ := ih (zCut1 A' b (zCause A' st b)) m1 (0, zCause A' st b) (zW_cut1 hW' hb' (by omega) hp) ((zK0_cut1 hW' hb' (by omega) hp).bl.mpr hb') i2 hf1 hf5
        refine ⟨m2, ?_, by simp only [zCut, if_neg hc]; exact j2, j3⟩
        rw [ev_X9_cutBehind_1]
        have w6 := hW'.2.1 (2 + zCause A' st b) (by omega) (by omega)
        have w7 := hW'.2.2.1
        have hg : A'.1 (2 + zCause A' st b) ≤ 500000 := by
          have := zlive_pos hW'
          have h2 := hW'.2.1 2 (by decide) (by decide)
          have h3 := hW'.2.1 3 (by decide) (by decide)
          have h4 := hW'.2.1 4 (by decide) (by decide)
          have h5 := hW'.2.1 5 (by decide) (by decide)
          unfold zgs at w7
          have : zCause A' st b = 0 ∨ zCause A' st b = 1 ∨ zCause A' st b = 2 ∨ zCause A' st b = 3 := by omega
          rcases this with h | h | h | h <;> rw [h] <;> simp <;> omega
        simp (disch := omega) [ev_X9_cutBehind_0, ev_X9_cutBehind_2, ev_X9_cutBehind_3, B_X9_cutBehind_0, B_X9_cutBehind_1, B_X9_cutBehind_2, B_X9_cutBehind_3, x_const, x_iadd, x_isub, x_imul, x_idiv, x_irem, x_ineg, x_dup, x_dup_x1, x_dup2, x_pop, x_goto, x_ifeq, x_ifne, x_iflt, x_ifge, x_ifgt, x_ifle, x_cmpeq, x_cmpne, x_cmplt, x_cmpge, x_cmpgt, x_cmple, x_null, x_nonnull, x_acmpeq, x_acmpne, x_get, x_put, x_putz, x_ald, x_ast, x_bast, x_zast, x_aast, x_alen, x_obj, x_ret, x_retz, x_vret, x_max, x_min, x_copy, x_i2l, qg_none, qg_inl, qg_inr, qg_ite, xr1, xr0, xrE, xri, xl0, xl1, xl2, xl3, xl4, xl5, xl6, xl7, xl8, xl9, xl10, xs0, xs1, xs2, xs3, xs4, xs5, xs6, xs7, xs8, xs9, xs10, xi0, xi1, xi2, xi3, xi4, xi5, xi6, xi7, xi8, xi9, xi10, xc0, xc1, xc2, xc3, xc4, xc5, xc6, xc7, xv1, xv2, xv3, xv4, xv5, xv6, xv7, dT_le, dF_le, dT_lt, dF_lt, dT_eq, dF_eq, qa_up_hit, qa_up_no, f2, f3, f4, fV, fW, f0, f8, f9, f7, e0, e1, eC, eB, eR, kS, kC, kV, kW, kB, kE, kR, kD, kL, hca, hc, i1, j1, zCut]
        rw [show (n : Int) + 1 + -1 = n by omega]
        exact j1
  obtain ⟨b1, b2, b3⟩ := id hb
  obtain ⟨n1, n2, n3, n4, n5, n6, n7⟩ := hW.bn hb
  obtain ⟨⟨f2, f3, f4, fV, fW, f0, f8, f9, f7⟩, e0, e1, eC, eB, eR, eD, eL, eE⟩ := id hC
  obtain ⟨kN, kS, kC, kV, kW, kB, kE, kR, kD, kL⟩ := id hK
  obtain ⟨m', i1, i2, i3⟩ := loop (A.2.1 b 5 - A.2.1 b 4).toNat A m (9, 0) hW hb hC (zfr.refl m S) (by omega)
  refine ⟨m', ?_, i2, i3⟩
  rw [show (((A.2.1 b 5 - A.2.1 b 4).toNat : Nat) : Int) = A.2.1 b 5 - A.2.1 b 4 by omega] at i1
  unfold f_X9_cutBehind
  refine qa_fn_eq ?_ (by simp)
  simp (disch := omega) [ev_X9_cutBehind_0, ev_X9_cutBehind_2, ev_X9_cutBehind_3, B_X9_cutBehind_0, B_X9_cutBehind_1, B_X9_cutBehind_2, B_X9_cutBehind_3, x_const, x_iadd, x_isub, x_imul, x_idiv, x_irem, x_ineg, x_dup, x_dup_x1, x_dup2, x_pop, x_goto, x_ifeq, x_ifne, x_iflt, x_ifge, x_ifgt, x_ifle, x_cmpeq, x_cmpne, x_cmplt, x_cmpge, x_cmpgt, x_cmple, x_null, x_nonnull, x_acmpeq, x_acmpne, x_get, x_put, x_putz, x_ald, x_ast, x_bast, x_zast, x_aast, x_alen, x_obj, x_ret, x_retz, x_vret, x_max, x_min, x_copy, x_i2l, qg_none, qg_inl, qg_inr, qg_ite, xr1, xr0, xrE, xri, xl0, xl1, xl2, xl3, xl4, xl5, xl6, xl7, xl8, xl9, xl10, xs0, xs1, xs2, xs3, xs4, xs5, xs6, xs7, xs8, xs9, xs10, xi0, xi1, xi2, xi3, xi4, xi5, xi6, xi7, xi8, xi9, xi10, xc0, xc1, xc2, xc3, xc4, xc5, xc6, xc7, xv1, xv2, xv3, xv4, xv5, xv6, xv7, dT_le, dF_le, dT_lt, dF_lt, f2, f3, f4, fV, fW, f0, f8, f9, f7, e0, e1, eC, eB, eR, kS, kC, kV, kW, kB, kE, kR, kD, kL, i1]
  rfl
