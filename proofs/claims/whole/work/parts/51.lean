def z00 : zA := (fun _ => 0, fun _ j => if j = 2 ∨ j = 3 then -1 else 0, fun _ j => if j = 4 then -1 else 0, fun _ _ _ => 0)
theorem c_initS {m : Int → Int → Int} {kd : Int → Nat × Int} {n c s : Nat} {S : Int} (hN : kd (-1) = (0, 0)) (hS0 : 0 ≤ S) (hn : S + 1 = n) (h1 : kd S = (13, 0)) (h0 : m S 0 = 0 ∧ m S 1 = 0) : ∃ m' kd', f_X9_init [(1, S)] (m, kd, n, c, s) = some (.inl none, (m', kd', n + 29, c + 29, s + 2266)) ∧ RC z00 m' kd' S ∧ KS kd' S ∧ (∀ x : Int, x < S → m' x = m x) ∧ ∀ x : Int, x < n ∨ (n : Int) + 29 ≤ x → kd' x = kd x := by
  have loop2 : ∀ (q : Nat) (k : Int) (mk : Int → Int → Int) (kk : Int → Nat × Int) (nk' ck sk : Nat), 0 ≤ k → k + q = 6 → (nk' : Int) = S + 12 + 3 * k → (ck : Int) + 18 = c + 29 + 3 * k → (sk : Int) + 168 = s + 2266 + 28 * k → mk S 2 = S + 1 ∧ mk S 3 = S + 2 ∧ mk S 4 = S + 3 → mk S 0 = 0 ∧ mk S 1 = 0 → (∀ i, mk (S + 1) i = 0) → (∀ b, 0 ≤ b → b < 4 → mk (S + 2) b = S + 4 + 2 * b ∧ mk (S + 4 + 2 * b) 0 = b ∧ mk (S + 4 + 2 * b) 8 = S + 5 + 2 * b ∧ ∀ j, 1 ≤ j → j ≤ 7 → mk (S + 4 + 2 * b) j = if j = 2 ∨ j = 3 then -1 else 0) →
      (∀ r, 0 ≤ r → r < k → mk (S + 3) r = S + 12 + 3 * r ∧ mk (S + 12 + 3 * r) 9 = S + 13 + 3 * r ∧ mk (S + 13 + 3 * r) 7 = S + 14 + 3 * r ∧ ∀ j, 0 ≤ j → j ≤ 8 → mk (S + 12 + 3 * r) j = if j = 4 then -1 else 0) →
      (kk (-1) = (0, 0) ∧ kk S = (13, 0) ∧ kk (S + 1) = (101, 4) ∧ kk (S + 2) = (116, 4) ∧ kk (S + 3) = (120, 6) ∧ (∀ b, 0 ≤ b → b < 4 → kk (S + 4 + 2 * b) = (6, 0) ∧ kk (S + 5 + 2 * b) = (119, 512)) ∧ ∀ r, 0 ≤ r → r < k → kk (S + 12 + 3 * r) = (10, 0) ∧ kk (S + 13 + 3 * r) = (7, 0) ∧ kk (S + 14 + 3 * r) = (101, 10)) → (∀ x : Int, x < S → mk x = m x) → (∀ x : Int, x < n ∨ (n : Int) + 29 ≤ x → kk x = kd x) →
      ∃ m' kd', qa_ev P_X9_init 3 [(1, S), (0, k)] [] (mk, kk, nk', ck, sk) = some (.inl none, (m', kd', n + 29, c + 29, s + 2266)) ∧ RC z00 m' kd' S ∧ KS kd' S ∧ (∀ x : Int, x < S → m' x = m x) ∧ ∀ x : Int, x < n ∨ (n : Int) + 29 ≤ x → kd' x = kd x := by
    intro q
    induction q with
    | zero =>
      intro k mk kk nk' ck sk a1 a2 a3 a4 a5 b1 b2 b3 b4 b5 b6 b7 b8
      obtain rfl : k = 6 := by omega
      obtain rfl : nk' = n + 29 := by omega
      obtain rfl : ck = c + 29 := by omega
      obtain rfl : sk = s + 2266 := by omega
      obtain ⟨g0, g1, g2, g3, g4, g5, g6⟩ := b6
      have hKS : KS kk S := ⟨g0, g1, g2, g3, g4, fun b x y => (g5 b x y).1, fun b x y => (g5 b x y).2, fun r x y => (g6 r x y).1, fun r x y => (g6 r x y).2.1, fun r x y => (g6 r x y).2.2⟩
      refine ⟨mk, kk, ?_, ⟨⟨b1.1, b1.2.1, b1.2.2, fun b x y => (b4 b x y).1, fun r x y => (b5 r x y).1, fun b x y => (b4 b x y).2.1, fun b x y => (b4 b x y).2.2.1, fun r x y => (b5 r x y).2.1, fun r x y => (b5 r x y).2.2.1⟩, b2.1, b2.2, fun i _ _ => b3 i, fun b j x y z v => (b4 b x y).2.2.2 j z v, fun r j x y z v => (b5 r x y).2.2.2 j z v, fun r j x y z => ?_, fun r j x y z => ?_, fun b p x y z => ?_⟩, hKS, b7, b8⟩
      · rw [ev_X9_init_3]
        simp (disch := omega) [ev_X9_init_0, ev_X9_init_1, ev_X9_init_2, ev_X9_init_4, B_X9_init_0, B_X9_init_1, B_X9_init_2, B_X9_init_3, B_X9_init_4, x_const, x_iadd, x_isub, x_imul, x_idiv, x_irem, x_ineg, x_dup, x_dup_x1, x_dup2, x_pop, x_goto, x_ifeq, x_ifne, x_iflt, x_ifge, x_ifgt, x_ifle, x_cmpeq, x_cmpne, x_cmplt, x_cmpge, x_cmpgt, x_cmple, x_null, x_nonnull, x_acmpeq, x_acmpne, x_get, x_put, x_putz, x_ald, x_ast, x_bast, x_zast, x_aast, x_alen, x_obj, x_ret, x_retz, x_vret, x_max, x_min, x_copy, x_i2l, qg_none, qg_inl, qg_inr, qg_ite, xr1, xr0, xrE, xri, xl0, xl1, xl2, xl3, xl4, xl5, xl6, xl7, xl8, xl9, xl10, xs0, xs1, xs2, xs3, xs4, xs5, xs6, xs7, xs8, xs9, xs10, xi0, xi1, xi2, xi3, xi4, xi5, xi6, xi7, xi8, xi9, xi10, xc0, xc1, xc2, xc3, xc4, xc5, xc6, xc7, xv1, xv2, xv3, xv4, xv5, xv6, xv7, dT_le, dF_le, dT_lt, dF_lt, g1, g4, b1.2.2]
      · simp [z00] at z
      · simp [z00] at z
      · simp [z00] at z
    | succ q ih =>
      intro k mk kk nk' ck sk a1 a2 a3 a4 a5 b1 b2 b3 b4 b5 b6 b7 b8
      obtain ⟨g0, g1, g2, g3, g4, g5, g6⟩ := b6
      obtain ⟨m1, i1, i2, i3, i4, i5, i6⟩ := c_initR (m := nm mk nk' z_X6) (kd := nk kk nk' (10, 0)) (n := nk' + 1) (c := ck + 1) (s := sk + 10) (R := nk') (nk_hit _ _ _) (by omega) (by push_cast; omega)
      push_cast at i1 i2 i3 i6
      have far : ∀ x : Int, x < nk' → m1 x = mk x := fun x hx => by
        rw [i2 x (by omega) (by omega) (by omega), nm_nof _ _ (by omega)]
      have v0 : ∀ j, j ≠ 4 → j ≠ 9 → m1 nk' j = 0 := fun j j1 j2 => by
        rw [i5 j j1 j2, nm_hit]
        unfold z_X6
        rw [if_neg j2]
      have kfar : ∀ x : Int, x < nk' ∨ (nk' : Int) + 2 < x → nk (nk (nk kk nk' (10, 0)) (nk' + 1) (7, 0)) (nk' + 1 + 1) (101, 10) x = kk x := fun x hx => by
        rw [nk_no _ _ (by omega), nk_no _ _ (by omega), nk_no _ _ (by omega)]
      have keep : ∀ x : Int, x < nk' → qa_up m1 (S + 3) k nk' x = if x = S + 3 then (fun i => if i = k then (nk' : Int) else mk (S + 3) i) else mk x := fun x hx => by
        funext i
        by_cases e : x = S + 3
        · rw [if_pos e, e]
          unfold qa_up
          by_cases e2 : i = k
          · rw [if_pos ⟨rfl, e2⟩, if_pos e2]
          · rw [if_neg (fun z => e2 z.2), if_neg e2, far _ (by omega)]
        · rw [if_neg e, qa_up_no _ (fun z => e z.1), far x hx]
      have keep2 : ∀ x : Int, x < nk' → x ≠ S + 3 → qa_up m1 (S + 3) k nk' x = mk x := fun x hx hne => by rw [keep x hx, if_neg hne]
      have new2 : ∀ x i : Int, nk' ≤ x → qa_up m1 (S + 3) k nk' x i = m1 x i := fun x i hx => qa_up_no _ (by omega)
      obtain ⟨m', kd', j1, j2⟩ := ih (k + 1) (qa_up m1 (S + 3) k nk') (nk (nk (nk kk nk' (10, 0)) (nk' + 1) (7, 0)) (nk' + 1 + 1) (101, 10)) (nk' + 1 + 2) (ck + 1 + 2) (sk + 10 + 18) (by omega) (by omega) (by omega) (by omega) (by omega)
        (by rw [keep2 S (by omega) (by omega)]; exact b1) (by rw [keep2 S (by omega) (by omega)]; exact b2) (fun i => by rw [keep2 _ (by omega) (by omega)]; exact b3 i)
        (fun b x y => by rw [keep2 (S + 2) (by omega) (by omega), keep2 (S + 4 + 2 * b) (by omega) (by omega)]; exact b4 b x y)
        (fun r x y => by
          by_cases e : r = k
          · subst e
            rw [keep _ (by omega), if_pos rfl, if_pos rfl, new2 _ _ (by omega), new2 _ _ (by omega), show S + 12 + 3 * r = nk' by omega, show S + 13 + 3 * r = (nk' : Int) + 1 by omega, show S + 14 + 3 * r = (nk' : Int) + 1 + 1 by omega]
            refine ⟨rfl, i3, i6, fun j j1 j2 => ?_⟩
            rw [new2 _ _ (Int.le_refl _)]
            by_cases e4 : j = 4
            · rw [if_pos e4, e4, i4]
            · rw [if_neg e4, v0 j e4 (by omega)]
          · have hb := b5 r x (by omega)
            rw [keep _ (by omega), if_pos rfl, if_neg e, keep2 _ (by omega) (by omega), keep2 _ (by omega) (by omega)]
            exact hb)
        ⟨by rw [kfar _ (by omega)]; exact g0, by rw [kfar _ (by omega)]; exact g1, by rw [kfar _ (by omega)]; exact g2, by rw [kfar _ (by omega)]; exact g3, by rw [kfar _ (by omega)]; exact g4, fun b x y => by rw [kfar _ (by omega), kfar _ (by omega)]; exact g5 b x y, fun r x y => by
          by_cases e : r = k
          · subst e
            rw [show S + 12 + 3 * r = nk' by omega, show S + 13 + 3 * r = (nk' : Int) + 1 by omega, show S + 14 + 3 * r = (nk' : Int) + 1 + 1 by omega]
            refine ⟨?_, ?_, nk_hit _ _ _⟩
            · rw [nk_no _ _ (by omega), nk_no _ _ (by omega), nk_hit]
            · rw [nk_no _ _ (by omega), nk_hit]
          · rw [kfar _ (by omega), kfar _ (by omega), kfar _ (by omega)]; exact g6 r x (by omega)⟩
        (fun x hx => by rw [keep2 x (by omega) (by omega)]; exact b7 x hx) (fun x hx => by rw [kfar x (by omega)]; exact b8 x hx)
      refine ⟨m', kd', ?_, j2⟩
      rw [ev_X9_init_3]
      have n1 : nk kk (nk' : Int) (10, 0) S = (13, 0) := by rw [nk_no _ _ (by omega)]; exact g1
      have f4 : m1 S 4 = S + 3 := by rw [far S (by omega)]; exact b1.2.2
      have kS' : nk (nk (nk kk nk' (10, 0)) (nk' + 1) (7, 0)) (nk' + 1 + 1) (101, 10) S = (13, 0) := by rw [kfar _ (by omega)]; exact g1
      have kW' : nk (nk (nk kk nk' (10, 0)) (nk' + 1) (7, 0)) (nk' + 1 + 1) (101, 10) (S + 3) = (120, 6) := by rw [kfar _ (by omega)]; exact g4
      have kn' : nk (nk (nk kk nk' (10, 0)) (nk' + 1) (7, 0)) (nk' + 1 + 1) (101, 10) nk' = (10, 0) := by rw [nk_no _ _ (by omega), nk_no _ _ (by omega), nk_hit]
      simp (disch := omega) [ev_X9_init_0, ev_X9_init_1, ev_X9_init_2, ev_X9_init_4, B_X9_init_0, B_X9_init_1, B_X9_init_2, B_X9_init_3, B_X9_init_4, x_const, x_iadd, x_isub, x_imul, x_idiv, x_irem, x_ineg, x_dup, x_dup_x1, x_dup2, x_pop, x_goto, x_ifeq, x_ifne, x_iflt, x_ifge, x_ifgt, x_ifle, x_cmpeq, x_cmpne, x_cmplt, x_cmpge, x_cmpgt, x_cmple, x_null, x_nonnull, x_acmpeq, x_acmpne, x_get, x_put, x_putz, x_ald, x_ast, x_bast, x_zast, x_aast, x_alen, x_obj, x_ret, x_retz, x_vret, x_max, x_min, x_copy, x_i2l, qg_none, qg_inl, qg_inr, qg_ite, xr1, xr0, xrE, xri, xl0, xl1, xl2, xl3, xl4, xl5, xl6, xl7, xl8, xl9, xl10, xs0, xs1, xs2, xs3, xs4, xs5, xs6, xs7, xs8, xs9, xs10, xi0, xi1, xi2, xi3, xi4, xi5, xi6, xi7, xi8, xi9, xi10, xc0, xc1, xc2, xc3, xc4, xc5, xc6, xc7, xv1, xv2, xv3, xv4, xv5, xv6, xv7, dT_le, dF_le, dT_lt, dF_lt, x_new, nk_hit, g1, g4, b1.2.2, i1, kS', kW', kn', f4, j1]
  have loop1 : ∀ (q : Nat) (k : Int) (mk : Int → Int → Int) (kk : Int → Nat × Int) (nk' ck sk : Nat), 0 ≤ k → k + q = 4 → (nk' : Int) = S + 4 + 2 * k → (ck : Int) + 8 = c + 11 + 2 * k → (sk : Int) + 2084 = s + 2098 + 521 * k → mk S 2 = S + 1 ∧ mk S 3 = S + 2 ∧ mk S 4 = S + 3 → mk S 0 = 0 ∧ mk S 1 = 0 → (∀ i, mk (S + 1) i = 0) → (∀ b, 0 ≤ b → b < k → mk (S + 2) b = S + 4 + 2 * b ∧ mk (S + 4 + 2 * b) 0 = b ∧ mk (S + 4 + 2 * b) 8 = S + 5 + 2 * b ∧ ∀ j, 1 ≤ j → j ≤ 7 → mk (S + 4 + 2 * b) j = if j = 2 ∨ j = 3 then -1 else 0) →
      (kk (-1) = (0, 0) ∧ kk S = (13, 0) ∧ kk (S + 1) = (101, 4) ∧ kk (S + 2) = (116, 4) ∧ kk (S + 3) = (120, 6) ∧ (∀ b, 0 ≤ b → b < k → kk (S + 4 + 2 * b) = (6, 0) ∧ kk (S + 5 + 2 * b) = (119, 512))) → (∀ x : Int, x < S → mk x = m x) → (∀ x : Int, x < n ∨ (n : Int) + 29 ≤ x → kk x = kd x) →
      ∃ m' kd', qa_ev P_X9_init 1 [(1, S), (0, k)] [] (mk, kk, nk', ck, sk) = some (.inl none, (m', kd', n + 29, c + 29, s + 2266)) ∧ RC z00 m' kd' S ∧ KS kd' S ∧ (∀ x : Int, x < S → m' x = m x) ∧ ∀ x : Int, x < n ∨ (n : Int) + 29 ≤ x → kd' x = kd x := by
    intro q
    induction q with
    | zero =>
      intro k mk kk nk' ck sk a1 a2 a3 a4 a5 b1 b2 b3 b4 b6 b7 b8
      obtain rfl : k = 4 := by omega
      obtain ⟨g0, g1, g2, g3, g4, g5⟩ := b6
      obtain ⟨m', kd', j1, j2⟩ := loop2 6 0 mk kk nk' ck sk (by decide) (by decide) (by omega) (by omega) (by omega) b1 b2 b3 b4 (fun r x y => by omega) ⟨g0, g1, g2, g3, g4, g5, fun r x y => by omega⟩ b7 b8
      refine ⟨m', kd', ?_, j2⟩
      rw [ev_X9_init_1]
      simp (disch := omega) [ev_X9_init_0, ev_X9_init_2, ev_X9_init_4, B_X9_init_0, B_X9_init_1, B_X9_init_2, B_X9_init_3, B_X9_init_4, x_const, x_iadd, x_isub, x_imul, x_idiv, x_irem, x_ineg, x_dup, x_dup_x1, x_dup2, x_pop, x_goto, x_ifeq, x_ifne, x_iflt, x_ifge, x_ifgt, x_ifle, x_cmpeq, x_cmpne, x_cmplt, x_cmpge, x_cmpgt, x_cmple, x_null, x_nonnull, x_acmpeq, x_acmpne, x_get, x_put, x_putz, x_ald, x_ast, x_bast, x_zast, x_aast, x_alen, x_obj, x_ret, x_retz, x_vret, x_max, x_min, x_copy, x_i2l, qg_none, qg_inl, qg_inr, qg_ite, xr1, xr0, xrE, xri, xl0, xl1, xl2, xl3, xl4, xl5, xl6, xl7, xl8, xl9, xl10, xs0, xs1, xs2, xs3, xs4, xs5, xs6, xs7, xs8, xs9, xs10, xi0, xi1, xi2, xi3, xi4, xi5, xi6, xi7, xi8, xi9, xi10, xc0, xc1, xc2, xc3, xc4, xc5, xc6, xc7, xv1, xv2, xv3, xv4, xv5, xv6, xv7, dT_le, dF_le, dT_lt, dF_lt, g1, g3, b1.2.1]
      exact j1
    | succ q ih =>
      intro k mk kk nk' ck sk a1 a2 a3 a4 a5 b1 b2 b3 b4 b6 b7 b8
      obtain ⟨g0, g1, g2, g3, g4, g5⟩ := b6
      have i1 := c_initB (m := nm mk nk' z_X2) (kd := nk kk nk' (6, 0)) (n := nk' + 1) (c := ck + 1) (s := sk + 9) (H := nk') (b := k) (nk_hit _ _ _) (by omega) (by push_cast; omega)
      push_cast at i1
      generalize hm1 : qa_up (qa_up (nm (qa_up (qa_up (nm mk (nk' : Int) z_X2) nk' 2 (-1)) nk' 3 (-1)) ((nk' : Int) + 1) (fun _ => -1)) nk' 8 ((nk' : Int) + 1)) nk' 0 k = m1 at i1
      have far : ∀ x : Int, x < nk' → m1 x = mk x := fun x hx => by
        funext i
        rw [← hm1, qa_up_no _ (by omega), qa_up_no _ (by omega), nm_no _ _ _ (by omega), qa_up_no _ (by omega), qa_up_no _ (by omega), nm_no _ _ _ (by omega)]
      have v0 : m1 nk' 0 = k ∧ m1 nk' 8 = (nk' : Int) + 1 ∧ ∀ j, 1 ≤ j → j ≤ 7 → m1 nk' j = if j = 2 ∨ j = 3 then -1 else 0 := by
        refine ⟨by rw [← hm1, qa_up_hit], by rw [← hm1, qa_up_no _ (by omega), qa_up_hit], fun j j1 j2 => ?_⟩
        rw [← hm1, qa_up_no _ (by omega), qa_up_no _ (by omega), nm_no _ _ _ (by omega)]
        by_cases e3 : j = 3
        · rw [e3, qa_up_hit]; rfl
        · rw [qa_up_no _ (by omega)]
          by_cases e2 : j = 2
          · rw [e2, qa_up_hit]; rfl
          · rw [qa_up_no _ (by omega), nm_hit, if_neg (by omega)]
            unfold z_X2
            rw [if_neg (by omega)]
      have kfar : ∀ x : Int, x < nk' ∨ (nk' : Int) + 1 < x → nk (nk kk nk' (6, 0)) (nk' + 1) (119, 512) x = kk x := fun x hx => by
        rw [nk_no _ _ (by omega), nk_no _ _ (by omega)]
      have keep : ∀ x : Int, x < nk' → qa_up m1 (S + 2) k nk' x = if x = S + 2 then (fun i => if i = k then (nk' : Int) else mk (S + 2) i) else mk x := fun x hx => by
        funext i
        by_cases e : x = S + 2
        · rw [if_pos e, e]
          unfold qa_up
          by_cases e2 : i = k
          · rw [if_pos ⟨rfl, e2⟩, if_pos e2]
          · rw [if_neg (fun z => e2 z.2), if_neg e2, far _ (by omega)]
        · rw [if_neg e, qa_up_no _ (fun z => e z.1), far x hx]
      have keep2 : ∀ x : Int, x < nk' → x ≠ S + 2 → qa_up m1 (S + 2) k nk' x = mk x := fun x hx hne => by rw [keep x hx, if_neg hne]
      have new2 : ∀ x i : Int, nk' ≤ x → qa_up m1 (S + 2) k nk' x i = m1 x i := fun x i hx => qa_up_no _ (by omega)
      obtain ⟨m', kd', j1, j2⟩ := ih (k + 1) (qa_up m1 (S + 2) k nk') (nk (nk kk nk' (6, 0)) (nk' + 1) (119, 512)) (nk' + 1 + 1) (ck + 1 + 1) (sk + 9 + 512) (by omega) (by omega) (by omega) (by omega) (by omega)
        (by rw [keep2 S (by omega) (by omega)]; exact b1) (by rw [keep2 S (by omega) (by omega)]; exact b2) (fun i => by rw [keep2 _ (by omega) (by omega)]; exact b3 i)
        (fun r x y => by
          by_cases e : r = k
          · subst e
            rw [keep _ (by omega), if_pos rfl, if_pos rfl, new2 _ _ (by omega), new2 _ _ (by omega), show S + 4 + 2 * r = nk' by omega, show S + 5 + 2 * r = (nk' : Int) + 1 by omega]
            refine ⟨rfl, v0.1, v0.2.1, fun j j1 j2 => ?_⟩
            rw [new2 _ _ (Int.le_refl _)]
            exact v0.2.2 j j1 j2
          · have hb := b4 r x (by omega)
            rw [keep _ (by omega), if_pos rfl, if_neg e, keep2 _ (by omega) (by omega)]
            exact hb)
        ⟨by rw [kfar _ (by omega)]; exact g0, by rw [kfar _ (by omega)]; exact g1, by rw [kfar _ (by omega)]; exact g2, by rw [kfar _ (by omega)]; exact g3, by rw [kfar _ (by omega)]; exact g4, fun r x y => by
          by_cases e : r = k
          · subst e
            rw [show S + 4 + 2 * r = nk' by omega, show S + 5 + 2 * r = (nk' : Int) + 1 by omega]
            refine ⟨?_, nk_hit _ _ _⟩
            rw [nk_no _ _ (by omega), nk_hit]
          · rw [kfar _ (by omega), kfar _ (by omega)]; exact g5 r x (by omega)⟩
        (fun x hx => by rw [keep2 x (by omega) (by omega)]; exact b7 x hx) (fun x hx => by rw [kfar x (by omega)]; exact b8 x hx)
      refine ⟨m', kd', ?_, j2⟩
      rw [ev_X9_init_1]
      have n1 : nk kk (nk' : Int) (6, 0) S = (13, 0) := by rw [nk_no _ _ (by omega)]; exact g1
      have f3 : m1 S 3 = S + 2 := by rw [far S (by omega)]; exact b1.2.1
      have kS' : nk (nk kk nk' (6, 0)) (nk' + 1) (119, 512) S = (13, 0) := by rw [kfar _ (by omega)]; exact g1
      have kV' : nk (nk kk nk' (6, 0)) (nk' + 1) (119, 512) (S + 2) = (116, 4) := by rw [kfar _ (by omega)]; exact g3
      have kn' : nk (nk kk nk' (6, 0)) (nk' + 1) (119, 512) nk' = (6, 0) := by rw [nk_no _ _ (by omega), nk_hit]
      simp (disch := omega) [ev_X9_init_0, ev_X9_init_2, ev_X9_init_4, B_X9_init_0, B_X9_init_1, B_X9_init_2, B_X9_init_3, B_X9_init_4, x_const, x_iadd, x_isub, x_imul, x_idiv, x_irem, x_ineg, x_dup, x_dup_x1, x_dup2, x_pop, x_goto, x_ifeq, x_ifne, x_iflt, x_ifge, x_ifgt, x_ifle, x_cmpeq, x_cmpne, x_cmplt, x_cmpge, x_cmpgt, x_cmple, x_null, x_nonnull, x_acmpeq, x_acmpne, x_get, x_put, x_putz, x_ald, x_ast, x_bast, x_zast, x_aast, x_alen, x_obj, x_ret, x_retz, x_vret, x_max, x_min, x_copy, x_i2l, qg_none, qg_inl, qg_inr, qg_ite, xr1, xr0, xrE, xri, xl0, xl1, xl2, xl3, xl4, xl5, xl6, xl7, xl8, xl9, xl10, xs0, xs1, xs2, xs3, xs4, xs5, xs6, xs7, xs8, xs9, xs10, xi0, xi1, xi2, xi3, xi4, xi5, xi6, xi7, xi8, xi9, xi10, xc0, xc1, xc2, xc3, xc4, xc5, xc6, xc7, xv1, xv2, xv3, xv4, xv5, xv6, xv7, dT_le, dF_le, dT_lt, dF_lt, x_new, nk_hit, g1, g3, b1.2.1, i1, kS', kV', kn', f3, j1]
  have e1 : ¬ S = (n : Int) := by omega
  have e2 : ¬ S = (n : Int) + 1 := by omega
  have e3 : ¬ S = (n : Int) + 1 + 1 := by omega
  have hSn : S ≠ -1 := by omega
  generalize hm1 : qa_up (nm (qa_up (nm (qa_up (nm m (n : Int) (fun _ => 0)) S 2 n) ((n : Int) + 1) (fun _ => -1)) S 3 ((n : Int) + 1)) ((n : Int) + 1 + 1) (fun _ => -1)) S 4 ((n : Int) + 1 + 1) = m1
  have q1 : m1 S 2 = S + 1 ∧ m1 S 3 = S + 2 ∧ m1 S 4 = S + 3 := by
    refine ⟨?_, ?_, ?_⟩
    · rw [← hm1, qa_up_no _ (by omega), nm_no _ _ _ e3, qa_up_no _ (by omega), nm_no _ _ _ e2, qa_up_hit]; omega
    · rw [← hm1, qa_up_no _ (by omega), nm_no _ _ _ e3, qa_up_hit]; omega
    · rw [← hm1, qa_up_hit]; omega
  have q2 : ∀ i, i ≤ 1 → m1 S i = m S i := fun i hi => by
    rw [← hm1, qa_up_no _ (by omega), nm_no _ _ _ e3, qa_up_no _ (by omega), nm_no _ _ _ e2, qa_up_no _ (by omega), nm_no _ _ _ e1]
  have q3 : ∀ i, m1 (S + 1) i = 0 := fun i => by
    rw [← hm1, qa_up_no _ (by omega), nm_no _ _ _ (by omega), qa_up_no _ (by omega), nm_no _ _ _ (by omega), qa_up_no _ (by omega), show S + 1 = (n : Int) by omega, nm_hit]
  have q4 : ∀ x : Int, x < S → m1 x = m x := fun x hx => by
    funext i
    rw [← hm1, qa_up_no _ (by omega), nm_no _ _ _ (by omega), qa_up_no _ (by omega), nm_no _ _ _ (by omega), qa_up_no _ (by omega), nm_no _ _ _ (by omega)]
  have kfar : ∀ x : Int, x < n ∨ (n : Int) + 2 < x → nk (nk (nk kd n (101, 4)) (n + 1) (116, 4)) (n + 1 + 1) (120, 6) x = kd x := fun x hx => by
    rw [nk_no _ _ (by omega), nk_no _ _ (by omega), nk_no _ _ (by omega)]
  obtain ⟨m', kd', j1, j2⟩ := loop1 4 0 m1 (nk (nk (nk kd n (101, 4)) (n + 1) (116, 4)) (n + 1 + 1) (120, 6)) (n + 1 + 1 + 1) (c + 1 + 1 + 1) (s + 4 + 4 + 6) (by decide) (by decide) (by omega) (by omega) (by omega) q1 ⟨by rw [q2 0 (by decide)]; exact h0.1, by rw [q2 1 (by decide)]; exact h0.2⟩ q3 (fun b x y => by omega)
    ⟨by rw [kfar _ (by omega)]; exact hN, by rw [kfar _ (by omega)]; exact h1, by rw [nk_no _ _ (by omega), nk_no _ _ (by omega), show S + 1 = (n : Int) by omega, nk_hit], by rw [nk_no _ _ (by omega), show S + 2 = (n : Int) + 1 by omega, nk_hit], by rw [show S + 3 = (n : Int) + 1 + 1 by omega, nk_hit], fun b x y => by omega⟩ q4 (fun x hx => kfar x (by omega))
  refine ⟨m', kd', ?_, j2⟩
  unfold f_X9_init
  refine qa_fn_eq ?_ (by simp)
  rw [← hm1] at j1
  simp (disch := omega) [ev_X9_init_0, ev_X9_init_2, ev_X9_init_4, B_X9_init_0, B_X9_init_1, B_X9_init_2, B_X9_init_3, B_X9_init_4, x_const, x_iadd, x_isub, x_imul, x_idiv, x_irem, x_ineg, x_dup, x_dup_x1, x_dup2, x_pop, x_goto, x_ifeq, x_ifne, x_iflt, x_ifge, x_ifgt, x_ifle, x_cmpeq, x_cmpne, x_cmplt, x_cmpge, x_cmpgt, x_cmple, x_null, x_nonnull, x_acmpeq, x_acmpne, x_get, x_put, x_putz, x_ald, x_ast, x_bast, x_zast, x_aast, x_alen, x_obj, x_ret, x_retz, x_vret, x_max, x_min, x_copy, x_i2l, qg_none, qg_inl, qg_inr, qg_ite, xr1, xr0, xrE, xri, xl0, xl1, xl2, xl3, xl4, xl5, xl6, xl7, xl8, xl9, xl10, xs0, xs1, xs2, xs3, xs4, xs5, xs6, xs7, xs8, xs9, xs10, xi0, xi1, xi2, xi3, xi4, xi5, xi6, xi7, xi8, xi9, xi10, xc0, xc1, xc2, xc3, xc4, xc5, xc6, xc7, xv1, xv2, xv3, xv4, xv5, xv6, xv7, dT_le, dF_le, dT_lt, dF_lt, x_newa, nk_no, h1, e1, e2, e3, hSn]
  exact j1
