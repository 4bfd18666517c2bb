def zsh (m : Int → Int → Int) (b k : Int) : Int → Int → Int := fun c i => if c = 79 ∧ ((190 + 1804 * b ≤ i ∧ i < 190 + 1804 * b + k) ∨ (7406 + 1804 * b ≤ i ∧ i < 7406 + 1804 * b + k)) then m 79 (i + 1) else m c i
theorem zsh_no {m : Int → Int → Int} {b k c i : Int} (h : c ≠ 79 ∨ (i < 190 + 1804 * b ∨ 190 + 1804 * b + k ≤ i) ∧ (i < 7406 + 1804 * b ∨ 7406 + 1804 * b + k ≤ i)) : zsh m b k c i = m c i := if_neg (by omega)
theorem zsh_0 {m : Int → Int → Int} {b : Int} : zsh m b 0 = m := by
  funext c i
  exact zsh_no (by omega)
theorem zsh_up {m : Int → Int → Int} {b k : Int} (hb : 0 ≤ b ∧ b < 4) (hk : 0 ≤ k ∧ k < 1803) : qa_up (qa_up (zsh m b k) 79 (190 + (1804 * b + k)) (m 79 (190 + (1804 * b + (k + 1))))) 79 (7406 + (1804 * b + k)) (m 79 (7406 + (1804 * b + (k + 1)))) = zsh m b (k + 1) := by
  funext c i
  by_cases hc : c = 79
  · subst hc
    by_cases h1 : i = 7406 + (1804 * b + k)
    · rw [qa_up_at _ ⟨rfl, h1⟩]
      unfold zsh
      rw [if_pos (by omega), h1]
      congr 1
      omega
    · rw [qa_up_no _ (by omega)]
      by_cases h2 : i = 190 + (1804 * b + k)
      · rw [qa_up_at _ ⟨rfl, h2⟩]
        unfold zsh
        rw [if_pos (by omega), h2]
        congr 1
        omega
      · rw [qa_up_no _ (by omega)]
        unfold zsh
        by_cases h3 : (190 + 1804 * b ≤ i ∧ i < 190 + 1804 * b + k) ∨ (7406 + 1804 * b ≤ i ∧ i < 7406 + 1804 * b + k)
        · rw [if_pos ⟨rfl, h3⟩, if_pos (by omega)]
        · rw [if_neg (fun z => h3 z.2), if_neg (by omega)]
  · rw [qa_up_no _ (by omega), qa_up_no _ (by omega), zsh_no (Or.inl hc), zsh_no (Or.inl hc)]
theorem m_cutsOne {m : Int → Int → Int} {kd : Int → Nat × Int} {w : Nat × Nat × Nat} {A : zA} (hK : KM kd) (hR : RM m) (hQ : QR A (m 79)) {M : Int} (hW : zW M A) {b c : Int} (hb : zBl A b) (hc : 0 ≤ c ∧ c ≤ 3) (hp : A.2.1 b 4 < A.2.1 b 5) (hX : zcb m 90000000) : ∃ m', f_X12_cutsOne [(1, 77), (0, b), (0, c)] (m, kd, w) = some (.inl none, (m', kd, w)) ∧ QR (zCut1 A b c) (m' 79) ∧ zfm m m' ∧ zcn m A m' (zCut1 A b c) := by
  obtain ⟨m1, i1, i2, i3, i4, i5⟩ := m_cutsL (w := w) (c := c) hK hR hQ hW hb hp hX
  have hR1 := zfm_RM i3 hR
  obtain ⟨b1, b2, b3⟩ := id hb
  obtain ⟨n1, n2, n3, n4, n5, n6, n7⟩ := hW.bn hb
  have he := hW.2.2.2.2.2.2.1 b _ b1 b2 b3 (Int.le_refl _) hp
  obtain ⟨q1, q2, q3, q4, q5, q6, q7, q8⟩ := id he
  have dg := hW.gs
  obtain ⟨k77, k78, k79, k80, k81, k82, k83, k84, k85, k86, k87, k88, k89, k90⟩ := id hK
  obtain ⟨r1, r2, r3, r4, r6, r7, r8, r12, r13, r15, r23, r25, r26⟩ := id hR1
  obtain ⟨g0, g1, gC, gI, gB, gJ, gR, gD, gE⟩ := id i2
  obtain ⟨u1, u2, u3, u4, u5, u6⟩ := gB b b1 b2 b3
  have u1' : m1 79 (6 + 7 * b + 1) = A.2.1 b 4 := u1
  have u2' : m1 79 (6 + 7 * b + 2) = A.2.1 b 5 - A.2.1 b 4 := u2
  have u3' : m1 79 (6 + 7 * b + 3) = A.2.1 b 6 := u3
  have u6' : m1 79 (6 + 7 * b + 6) = A.2.1 b 7 := u6
  have uE := (gE b 0 b1 b2 b3 (Int.le_refl _) (by show 0 < A.2.1 b 5 - A.2.1 b 4; omega)).2
  rw [Int.add_zero, Int.add_zero] at uE
  have uE' : m1 79 (7406 + 1804 * b) = (A.2.2.2 b (A.2.1 b 4) 1 * 10 + A.2.2.2 b (A.2.1 b 4) 2) * 200 + A.2.2.2 b (A.2.1 b 4) 3 + 99 := uE
  have uS : m1 79 (7406 + 1804 * b) / 200 % 10 = A.2.2.2 b (A.2.1 b 4) 2 := by omega
  have uP : 0 ≤ m1 79 (7406 + 1804 * b) := by omega
  have hsz := m_sizeR (w := w) hK (b := b) (k := 0) hR1 b1 b2 (by decide) (by decide) (by rw [Int.add_zero]; exact uP)
  rw [Int.add_zero, uS] at hsz
  have uC : m1 79 (2 + c) = A.1 (2 + c) := gC c hc.1 (by omega)
  have uCb : 0 ≤ A.1 (2 + c) ∧ A.1 (2 + c) ≤ 500000 := by
    have h2 := hW.2.1 2 (by decide) (by decide)
    have h3 := hW.2.1 3 (by decide) (by decide)
    have h4 := hW.2.1 4 (by decide) (by decide)
    have h5 := hW.2.1 5 (by decide) (by decide)
    unfold zgs at dg
    have : c = 0 ∨ c = 1 ∨ c = 2 ∨ c = 3 := by omega
    rcases this with h | h | h | h <;> rw [h] <;> simp <;> omega
  have x9 := hX.1
  rw [← i5] at x9
  generalize hm2 : qa_up (qa_up (qa_up (qa_up (qa_up (qa_up m1 79 (6 + 7 * b + 3) (A.2.1 b 6 - A.2.2.2 b (A.2.1 b 4) 2)) 79 (6 + 7 * b + 1) (A.2.1 b 4 + 1)) 79 (6 + 7 * b + 2) (A.2.1 b 5 - A.2.1 b 4 - 1)) 79 (6 + 7 * b + 6) (A.2.1 b 7 + 1)) 79 (2 + c) (A.1 (2 + c) + 1)) 77 9 (m1 77 9 + 1) = m2
  have R2 : ∀ i, m2 79 i = if i = 2 + c then A.1 (2 + c) + 1 else if i = 6 + 7 * b + 6 then A.2.1 b 7 + 1 else if i = 6 + 7 * b + 2 then A.2.1 b 5 - A.2.1 b 4 - 1 else if i = 6 + 7 * b + 1 then A.2.1 b 4 + 1 else if i = 6 + 7 * b + 3 then A.2.1 b 6 - A.2.2.2 b (A.2.1 b 4) 2 else m1 79 i := fun i => by
    rw [← hm2]
    simp [qa_up]
  have S2 : ∀ i, m2 77 i = if i = 9 then m1 77 9 + 1 else m1 77 i := fun i => by
    rw [← hm2]
    simp [qa_up]
  have C2 : ∀ x, x ≠ 77 → x ≠ 79 → m2 x = m1 x := fun x x1 x2 => by
    funext i
    rw [← hm2]
    simp [qa_up, x1, x2]
  have loop : ∀ (n : Nat) (k : Int), 0 ≤ k → k + n = A.2.1 b 5 - A.2.1 b 4 - 1 → qa_ev P_X12_cutsOne 7 [(1, 77), (0, b), (0, c), (0, k)] [] (zsh m2 b k, kd, w) = some (.inl none, (zsh m2 b (A.2.1 b 5 - A.2.1 b 4 - 1), kd, w)) := by
    intro n
    induction n with
    | zero =>
      intro k h1 h2
      obtain rfl : k = A.2.1 b 5 - A.2.1 b 4 - 1 := by omega
      have hRz : RM (zsh m2 b (A.2.1 b 5 - A.2.1 b 4 - 1)) := by
        unfold RM
        simp only [zsh_no (Or.inl (show (77 : Int) ≠ 79 by decide)), S2]
        exact hR1
      have t2 : zsh m2 b (A.2.1 b 5 - A.2.1 b 4 - 1) 79 (6 + 7 * b + 2) = A.2.1 b 5 - A.2.1 b 4 - 1 := by
        rw [zsh_no (by omega), R2, if_neg (by omega), if_neg (by omega), if_pos rfl]
      rw [ev_X12_cutsOne_7]
      simp (disch := omega) [ev_X12_cutsOne_0, ev_X12_cutsOne_1, ev_X12_cutsOne_2, ev_X12_cutsOne_3, ev_X12_cutsOne_4, ev_X12_cutsOne_5, ev_X12_cutsOne_6, ev_X12_cutsOne_8, ev_X12_cutsOne_9, B_X12_cutsOne_0, B_X12_cutsOne_1, B_X12_cutsOne_2, B_X12_cutsOne_3, B_X12_cutsOne_4, B_X12_cutsOne_5, B_X12_cutsOne_6, B_X12_cutsOne_7, B_X12_cutsOne_8, B_X12_cutsOne_9, x_const, x_iadd, x_isub, x_imul, x_idiv, x_irem, x_ineg, x_dup, x_dup_x1, x_dup2, x_pop, x_goto, x_ifeq, x_ifne, x_iflt, x_ifge, x_ifgt, x_ifle, x_cmpeq, x_cmpne, x_cmplt, x_cmpge, x_cmpgt, x_cmple, x_null, x_nonnull, x_acmpeq, x_acmpne, x_get, x_put, x_putz, x_ald, x_ast, x_bast, x_zast, x_aast, x_alen, x_obj, x_ret, x_retz, x_vret, x_max, x_min, x_copy, x_i2l, qg_none, qg_inl, qg_inr, qg_ite, xr1, xr0, xrE, xri, xl0, xl1, xl2, xl3, xl4, xl5, xl6, xl7, xl8, xl9, xl10, xs0, xs1, xs2, xs3, xs4, xs5, xs6, xs7, xs8, xs9, xs10, xi0, xi1, xi2, xi3, xi4, xi5, xi6, xi7, xi8, xi9, xi10, xc0, xc1, xc2, xc3, xc4, xc5, xc6, xc7, xv1, xv2, xv3, xv4, xv5, xv6, xv7, dT_le, dF_le, dT_lt, dF_lt, k77, m_ofBranch hK hRz, t2]
    | succ n ih =>
      intro k h1 h2
      have ih' := ih (k + 1) (by omega) (by omega)
      have hRz : RM (zsh m2 b k) := by
        unfold RM
        simp only [zsh_no (Or.inl (show (77 : Int) ≠ 79 by decide)), S2]
        exact hR1
      have t2 : zsh m2 b k 79 (6 + 7 * b + 2) = A.2.1 b 5 - A.2.1 b 4 - 1 := by
        rw [zsh_no (by omega), R2, if_neg (by omega), if_neg (by omega), if_pos rfl]
      have t3 : zsh m2 b k 77 2 = 79 := by
        rw [zsh_no (by omega), S2, if_neg (by decide)]; exact r2
      have t4 : zsh m2 b k 79 (190 + (1804 * b + (k + 1))) = m2 79 (190 + (1804 * b + (k + 1))) := zsh_no (by omega)
      have t5 : zsh m2 b k 79 (7406 + (1804 * b + (k + 1))) = m2 79 (7406 + (1804 * b + (k + 1))) := zsh_no (by omega)
      have t6 := zsh_up (m := m2) (b := b) (k := k) ⟨b1, b2⟩ ⟨h1, by omega⟩
      rw [ev_X12_cutsOne_7]
      simp (disch := omega) [ev_X12_cutsOne_0, ev_X12_cutsOne_1, ev_X12_cutsOne_2, ev_X12_cutsOne_3, ev_X12_cutsOne_4, ev_X12_cutsOne_5, ev_X12_cutsOne_6, ev_X12_cutsOne_8, ev_X12_cutsOne_9, B_X12_cutsOne_0, B_X12_cutsOne_1, B_X12_cutsOne_2, B_X12_cutsOne_3, B_X12_cutsOne_4, B_X12_cutsOne_5, B_X12_cutsOne_6, B_X12_cutsOne_7, B_X12_cutsOne_8, B_X12_cutsOne_9, x_const, x_iadd, x_isub, x_imul, x_idiv, x_irem, x_ineg, x_dup, x_dup_x1, x_dup2, x_pop, x_goto, x_ifeq, x_ifne, x_iflt, x_ifge, x_ifgt, x_ifle, x_cmpeq, x_cmpne, x_cmplt, x_cmpge, x_cmpgt, x_cmple, x_null, x_nonnull, x_acmpeq, x_acmpne, x_get, x_put, x_putz, x_ald, x_ast, x_bast, x_zast, x_aast, x_alen, x_obj, x_ret, x_retz, x_vret, x_max, x_min, x_copy, x_i2l, qg_none, qg_inl, qg_inr, qg_ite, xr1, xr0, xrE, xri, xl0, xl1, xl2, xl3, xl4, xl5, xl6, xl7, xl8, xl9, xl10, xs0, xs1, xs2, xs3, xs4, xs5, xs6, xs7, xs8, xs9, xs10, xi0, xi1, xi2, xi3, xi4, xi5, xi6, xi7, xi8, xi9, xi10, xc0, xc1, xc2, xc3, xc4, xc5, xc6, xc7, xv1, xv2, xv3, xv4, xv5, xv6, xv7, dT_le, dF_le, dT_lt, dF_lt, dT_eq, dF_eq, qa_up_hit, qa_up_no, k77, k79, m_ofBranch hK hRz, m_entryAt, t2, t3, t4, t5, t6, ih']
  have lp := loop (A.2.1 b 5 - A.2.1 b 4 - 1).toNat 0 (by decide) (by omega)
  rw [zsh_0] at lp
  have hgC := zCut1_g A b c
  refine ⟨zsh m2 b (A.2.1 b 5 - A.2.1 b 4 - 1), ?_, ?_, ?_, ?_⟩
  · unfold f_X12_cutsOne
    refine qa_fn_eq ?_ (by simp)
    simp (disch := omega) [ev_X12_cutsOne_0, ev_X12_cutsOne_2, ev_X12_cutsOne_3, ev_X12_cutsOne_5, ev_X12_cutsOne_6, ev_X12_cutsOne_8, ev_X12_cutsOne_9, B_X12_cutsOne_0, B_X12_cutsOne_1, B_X12_cutsOne_2, B_X12_cutsOne_3, B_X12_cutsOne_4, B_X12_cutsOne_5, B_X12_cutsOne_6, B_X12_cutsOne_7, B_X12_cutsOne_8, B_X12_cutsOne_9, x_const, x_iadd, x_isub, x_imul, x_idiv, x_irem, x_ineg, x_dup, x_dup_x1, x_dup2, x_pop, x_goto, x_ifeq, x_ifne, x_iflt, x_ifge, x_ifgt, x_ifle, x_cmpeq, x_cmpne, x_cmplt, x_cmpge, x_cmpgt, x_cmple, x_null, x_nonnull, x_acmpeq, x_acmpne, x_get, x_put, x_putz, x_ald, x_ast, x_bast, x_zast, x_aast, x_alen, x_obj, x_ret, x_retz, x_vret, x_max, x_min, x_copy, x_i2l, qg_none, qg_inl, qg_inr, qg_ite, xr1, xr0, xrE, xri, xl0, xl1, xl2, xl3, xl4, xl5, xl6, xl7, xl8, xl9, xl10, xs0, xs1, xs2, xs3, xs4, xs5, xs6, xs7, xs8, xs9, xs10, xi0, xi1, xi2, xi3, xi4, xi5, xi6, xi7, xi8, xi9, xi10, xc0, xc1, xc2, xc3, xc4, xc5, xc6, xc7, xv1, xv2, xv3, xv4, xv5, xv6, xv7, dT_le, dF_le, dT_lt, dF_lt, i1]
    rw [ev_X12_cutsOne_4]
    have hRa : ∀ x y, RM (qa_up m1 79 x y) := fun x y => by rw [RM_u]; exact hR1
    rw [← hm2] at lp
    simp (disch := omega) [ev_X12_cutsOne_0, ev_X12_cutsOne_2, ev_X12_cutsOne_3, ev_X12_cutsOne_4, ev_X12_cutsOne_5, ev_X12_cutsOne_6, ev_X12_cutsOne_8, ev_X12_cutsOne_9, B_X12_cutsOne_0, B_X12_cutsOne_1, B_X12_cutsOne_2, B_X12_cutsOne_3, B_X12_cutsOne_4, B_X12_cutsOne_5, B_X12_cutsOne_6, B_X12_cutsOne_7, B_X12_cutsOne_8, B_X12_cutsOne_9, x_const, x_iadd, x_isub, x_imul, x_idiv, x_irem, x_ineg, x_dup, x_dup_x1, x_dup2, x_pop, x_goto, x_ifeq, x_ifne, x_iflt, x_ifge, x_ifgt, x_ifle, x_cmpeq, x_cmpne, x_cmplt, x_cmpge, x_cmpgt, x_cmple, x_null, x_nonnull, x_acmpeq, x_acmpne, x_get, x_put, x_putz, x_ald, x_ast, x_bast, x_zast, x_aast, x_alen, x_obj, x_ret, x_retz, x_vret, x_max, x_min, x_copy, x_i2l, qg_none, qg_inl, qg_inr, qg_ite, xr1, xr0, xrE, xri, xl0, xl1, xl2, xl3, xl4, xl5, xl6, xl7, xl8, xl9, xl10, xs0, xs1, xs2, xs3, xs4, xs5, xs6, xs7, xs8, xs9, xs10, xi0, xi1, xi2, xi3, xi4, xi5, xi6, xi7, xi8, xi9, xi10, xc0, xc1, xc2, xc3, xc4, xc5, xc6, xc7, xv1, xv2, xv3, xv4, xv5, xv6, xv7, dT_le, dF_le, dT_lt, dF_lt, dT_eq, dF_eq, qa_up_hit, qa_up_no, k77, k79, r2, m_branchAt, hsz, u1', u2', u3', u6', uC, lp]
    rw [hm2]
  · have e : ((zCut1 A b c).1, (zCut1 A b c).2.1, (zAk A b 6).2.2.1, A.2.2.2) = zCut1 A b c := by
      show ((zCut1 A b c).1, (zCut1 A b c).2.1, zRk A b 6, A.2.2.2) = zCut1 A b c
      rw [zRk_all]
      rfl
    rw [← e]
    have far : ∀ i, (i < 190 + 1804 * b ∨ 190 + 1804 * b + (A.2.1 b 5 - A.2.1 b 4 - 1) ≤ i) ∧ (i < 7406 + 1804 * b ∨ 7406 + 1804 * b + (A.2.1 b 5 - A.2.1 b 4 - 1) ≤ i) → i ≠ 2 + c → (i < 6 + 7 * b + 1 ∨ 6 + 7 * b + 6 < i ∨ i = 6 + 7 * b + 4 ∨ i = 6 + 7 * b + 5) → zsh m2 b (A.2.1 b 5 - A.2.1 b 4 - 1) 79 i = m1 79 i := fun i h1 h2 h3 => by
      rw [zsh_no (Or.inr h1), R2, if_neg h2, if_neg (by omega), if_neg (by omega), if_neg (by omega), if_neg (by omega)]
    have near : ∀ i, i < 190 → zsh m2 b (A.2.1 b 5 - A.2.1 b 4 - 1) 79 i = m2 79 i := fun i hi => zsh_no (by omega)
    refine QR_br i2 (k := b) b1 b2 ?_ ?_ ?_ ?_ ?_ ?_ ?_ ?_ ?_ ?_ ?_ ?_
    · rw [far 0 (by omega) (by omega) (by omega), hgC, if_neg (by omega)]; exact g0
    · rw [far 1 (by omega) (by omega) (by omega), hgC, if_neg (by omega)]; exact g1
    · intro i h1 h2
      rw [hgC]
      by_cases h : i = c
      · rw [h, if_pos rfl, near _ (by omega), R2, if_pos rfl]
      · rw [if_neg (by omega), far _ (by omega) (by omega) (by omega)]
        exact gC i h1 h2
    · intro i h1 h2
      exact far i (by omega) (by omega) (by omega)
    · intro b' i h1 h2 h3 h4 h5
      exact far _ (by omega) (by omega) (by omega)
    · intro b' i h1 h2 h3 h4 h5
      exact ⟨far _ (by omega) (by omega) (by omega), far _ (by omega) (by omega) (by omega)⟩
    · intro b' j h
      rw [zCut1_B, if_neg h]
      rfl
    · intro b' p j h
      rfl
    · intro b' h h1 h2 h3
      have h3' : A.2.1 b' 1 = 1 := h3
      have := hW.bn ⟨h1, h2, h3'⟩
      show A.2.1 b' 5 - A.2.1 b' 4 ≤ 1804
      omega
    · rw [far _ (by omega) (by omega) (by omega), zCut1_B1 _ _ _ _ (by decide) (by decide) (by decide)]
      exact gI b b1 b2
    · intro _
      rw [zCut1_B4, if_pos rfl, zCut1_B1 _ _ _ _ (j := 5) (by decide) (by decide) (by decide), zCut1_B1 _ _ _ _ (j := 2) (by decide) (by decide) (by decide), zCut1_B1 _ _ _ _ (j := 3) (by decide) (by decide) (by decide), far (6 + 7 * b + 4) (by omega) (by omega) (by omega), far (6 + 7 * b + 5) (by omega) (by omega) (by omega), near _ (by omega), near _ (by omega), near _ (by omega), near _ (by omega)]
      refine ⟨?_, ?_, ?_, u4, u5, ?_⟩
      · rw [R2, if_neg (by omega), if_neg (by omega), if_neg (by omega), if_pos rfl]
      · rw [R2, if_neg (by omega), if_neg (by omega), if_pos rfl]; omega
      · rw [R2, if_neg (by omega), if_neg (by omega), if_neg (by omega), if_neg (by omega), if_pos rfl]
        simp [zCut1_B]
      · rw [R2, if_neg (by omega), if_pos rfl]
        simp [zCut1_B]
    · intro _ i h1 h2
      rw [zCut1_B4, if_pos rfl, zCut1_B1 _ _ _ _ (j := 5) (by decide) (by decide) (by decide)] at h2
      rw [zCut1_B4, if_pos rfl]
      have hz := gE b (i + 1) b1 b2 b3 (by omega) (by show i + 1 < A.2.1 b 5 - A.2.1 b 4; omega)
      have e1 : zsh m2 b (A.2.1 b 5 - A.2.1 b 4 - 1) 79 (190 + (1804 * b + i)) = m1 79 (190 + (1804 * b + (i + 1))) := by
        unfold zsh
        rw [if_pos (by omega), R2, if_neg (by omega), if_neg (by omega), if_neg (by omega), if_neg (by omega), if_neg (by omega)]
        congr 1
        omega
      have e2 : zsh m2 b (A.2.1 b 5 - A.2.1 b 4 - 1) 79 (7406 + (1804 * b + i)) = m1 79 (7406 + (1804 * b + (i + 1))) := by
        unfold zsh
        rw [if_pos (by omega), R2, if_neg (by omega), if_neg (by omega), if_neg (by omega), if_neg (by omega), if_neg (by omega)]
        congr 1
        omega
      rw [e1, e2, show A.2.1 b 4 + 1 + i = A.2.1 b 4 + (i + 1) by omega]
      exact hz
  · refine ⟨fun x x1 x2 x3 => ?_, fun i h1 h2 h3 => ?_⟩
    · rw [← i3.1 x x1 x2 x3, ← C2 x x1 x2]
      funext i
      exact zsh_no (Or.inl x2)
    · rw [zsh_no (by omega), S2, if_neg h1]
      exact i3.2 i h1 h2 h3
  · have hg : zgs (zCut1 A b c) = zgs A + 1 := by
      unfold zgs
      simp only [zCut1_g]
      have : c = 0 ∨ c = 1 ∨ c = 2 ∨ c = 3 := by omega
      rcases this with rfl | rfl | rfl | rfl <;> simp <;> omega
    have hR' : (zCut1 A b c).2.2.1 = zRk A b 6 := by
      rw [zRk_all]
      rfl
    have e85 : zsh m2 b (A.2.1 b 5 - A.2.1 b 4 - 1) 85 = m1 85 := by
      rw [← C2 85 (by decide) (by decide)]
      funext i
      exact zsh_no (by omega)
    refine ⟨?_, ?_, ?_, fun r h1 h2 => ?_⟩
    · rw [zsh_no (by omega), S2, if_pos rfl, i5, hg]; omega
    · rw [zsh_no (by omega), S2, if_neg (by decide)]
      have : zbs (zCut1 A b c) = zbs (zAk A b 6) := by
        unfold zbs zAk
        rw [hR']
      rw [this]
      exact i4.2.1
    · rw [zsh_no (by omega), S2, if_neg (by decide)]
      have : zds (zCut1 A b c) = zds (zAk A b 6) := by
        unfold zds zAk
        rw [hR']
      rw [this]
      exact i4.2.2.1
    · rw [e85]
      have : zd1 (zCut1 A b c) r = zd1 (zAk A b 6) r := by
        unfold zd1 zAk
        rw [hR']
      rw [this]
      exact i4.2.2.2 r h1 h2
