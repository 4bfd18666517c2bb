theorem zsum_upd {g g' : Int → Int} {k : Int} (k1 : 0 ≤ k) (k2 : k < 6) (h : ∀ i, i ≠ k → g' i = g i) : zsum g' 6 = zsum g 6 + (g' k - g k) := by
  have : k = 0 ∨ k = 1 ∨ k = 2 ∨ k = 3 ∨ k = 4 ∨ k = 5 := by omega
  have e0 := fun z => h 0 z
  have e1 := fun z => h 1 z
  have e2 := fun z => h 2 z
  have e3 := fun z => h 3 z
  have e4 := fun z => h 4 z
  have e5 := fun z => h 5 z
  simp only [zsum, zsf]
  rcases this with rfl | rfl | rfl | rfl | rfl | rfl <;> simp at e0 e1 e2 e3 e4 e5 ⊢ <;> omega
theorem zds_k {A : zA} {b k : Int} (k1 : 0 ≤ k) (k2 : k < 6) (hk : 0 ≤ A.2.2.2 b (A.2.1 b 4) 1) : zds (A.1, A.2.1, zRk A b (k + 1), A.2.2.2) = zds (A.1, A.2.1, zRk A b k, A.2.2.2) + if zLow A k b then 1 else 0 := by
  unfold zds
  rw [zsum_upd (k := k) k1 k2 (g := fun r => if zRk A b k r 0 = 1 then zRk A b k r 9 else 0) (g' := fun r => if zRk A b (k + 1) r 0 = 1 then zRk A b (k + 1) r 9 else 0) (fun i hi => by simp only [zRk_ne hi])]
  congr 1
  simp only [zRk_at]
  by_cases h : zLow A k b
  · simp only [zRk_yes h]
    have h0 := h.1.1.2.2
    have z0 : zOwe A b k 9 = A.2.2.1 k 9 + 1 := by simp [zOwe]
    by_cases hk0 : zOwe A b k 0 = 1
    · rw [if_pos h, if_pos hk0, if_pos h0, z0]; omega
    · exfalso
      apply hk0
      rw [zOwe_lt (by decide) (by decide) hk]
      exact h0
  · simp only [zRk_no h, zRk_at]
    rw [if_neg h]; omega
def zAk (A : zA) (b k : Int) : zA := (A.1, A.2.1, zRk A b k, A.2.2.2)
theorem zAk_d {A : zA} {b k : Int} (h : zWd A k) : zWd (zAk A b k) k := by
  unfold zWd zAk at *
  simp only [zRk_at]
  exact h
def zcb (m : Int → Int → Int) (X : Int) : Prop := (-X ≤ m 77 9 ∧ m 77 9 ≤ X) ∧ (-X ≤ m 77 10 ∧ m 77 10 ≤ X) ∧ (-X ≤ m 77 11 ∧ m 77 11 ≤ X) ∧ ∀ r, 0 ≤ r → r < 6 → -X ≤ m 85 r ∧ m 85 r ≤ X
theorem m_cutsL {m : Int → Int → Int} {kd : Int → Nat × Int} {w : Nat × Nat × Nat} {A : zA} (hK : KM kd) (hR : RM m) (hQ : QR A (m 79)) {M : Int} (hW : zW M A) {b c : Int} (hb : zBl A b) (hp : A.2.1 b 4 < A.2.1 b 5) (hX : zcb m 90000000) : ∃ m', qa_ev P_X12_cutsOne 1 [(1, 77), (0, b), (0, c), (0, 0)] [] (m, kd, w) = qa_ev P_X12_cutsOne 4 [(1, 77), (0, b), (0, c), (0, 6)] [] (m', kd, w) ∧ QR (zAk A b 6) (m' 79) ∧ zfm m m' ∧ zcn m A m' (zAk A b 6) ∧ m' 77 9 = m 77 9 := by
  obtain ⟨b1, b2, b3⟩ := id hb
  obtain ⟨n1, n2, n3, n4, n5, n6, n7⟩ := hW.bn hb
  have he := hW.2.2.2.2.2.2.1 b _ b1 b2 b3 (Int.le_refl _) hp
  have dg := hW.gs
  have loop : ∀ (n : Nat) (k : Int) (mk : Int → Int → Int), 0 ≤ k → k + n = 6 → QR (zAk A b k) (mk 79) → zfm m mk → zcn m A mk (zAk A b k) → 0 ≤ zds (zAk A b k) - zds A → zds (zAk A b k) - zds A ≤ k → ∃ m', qa_ev P_X12_cutsOne 1 [(1, 77), (0, b), (0, c), (0, k)] [] (mk, kd, w) = qa_ev P_X12_cutsOne 4 [(1, 77), (0, b), (0, c), (0, 6)] [] (m', kd, w) ∧ QR (zAk A b 6) (m' 79) ∧ zfm m m' ∧ zcn m A m' (zAk A b 6) := by
    intro n
    induction n with
    | zero =>
      intro k mk h1 h2 hQk hfk hck hd1 hd2
      obtain rfl : k = 6 := by omega
      refine ⟨mk, ?_, hQk, hfk, hck⟩
      rw [ev_X12_cutsOne_1]
      simp (disch := omega) [B_X12_cutsOne_1, x_const, x_iadd, x_isub, x_imul, x_idiv, x_irem, x_ineg, x_dup, x_dup_x1, x_dup2, x_pop, x_goto, x_ifeq, x_ifne, x_iflt, x_ifge, x_ifgt, x_ifle, x_cmpeq, x_cmpne, x_cmplt, x_cmpge, x_cmpgt, x_cmple, x_null, x_nonnull, x_acmpeq, x_acmpne, x_get, x_put, x_putz, x_ald, x_ast, x_bast, x_zast, x_aast, x_alen, x_obj, x_ret, x_retz, x_vret, x_max, x_min, x_copy, x_i2l, qg_none, qg_inl, qg_inr, qg_ite, xr1, xr0, xrE, xri, xl0, xl1, xl2, xl3, xl4, xl5, xl6, xl7, xl8, xl9, xl10, xs0, xs1, xs2, xs3, xs4, xs5, xs6, xs7, xs8, xs9, xs10, xi0, xi1, xi2, xi3, xi4, xi5, xi6, xi7, xi8, xi9, xi10, xc0, xc1, xc2, xc3, xc4, xc5, xc6, xc7, xv1, xv2, xv3, xv4, xv5, xv6, xv7, dT_le, dF_le, dT_lt, dF_lt]
    | succ n ih =>
      intro k mk h1 h2 hQk hfk hck hd1 hd2
      have hRk := zfm_RM hfk hR
      obtain ⟨k77, k78, k79, k80, k81, k82, k83, k84, k85, k86, k87, k88, k89, k90⟩ := id hK
      obtain ⟨r1, r2, r3, r4, r6, r7, r8, r12, r13, r15, r23, r25, r26⟩ := id hRk
      obtain ⟨g0, g1, gC, gI, gB, gJ, gR, gD, gE⟩ := id hQk
      obtain ⟨u1, u2⟩ := gB b b1 b2 b3
      have u1' : mk 79 (6 + 7 * b + 1) = A.2.1 b 4 := u1
      have hi := m_isIn (w := w) hK hRk hQk k b
      have zat : ∀ j, (zAk A b k).2.2.1 k j = A.2.2.1 k j := fun j => zRk_at A b k j
      have hzin : zIn (zAk A b k) k b ↔ zIn A k b := by
        unfold zIn zRl
        rw [zat, zat]
      have hds := zds_k (A := A) (b := b) h1 (by omega) he.2.2.1
      by_cases hin : zIn A k b
      · rw [if_pos (hzin.mpr hin)] at hi
        have ht := hin.1.2.2
        have e2 : mk 79 (34 + 26 * k + 2) = A.2.2.1 k 2 := (gR k 2 h1 (by omega) ((zat 0).trans ht) (by decide) (by decide)).trans (zat 2)
        by_cases hl : A.2.2.1 k 2 ≤ A.2.1 b 4
        · have hlow : zLow A k b := ⟨hin, hl⟩
          rw [if_pos hlow] at hds
          have h11 : mk 77 11 = m 77 11 + (zds (zAk A b k) - zds A) := by have := hck.2.2.1; omega
          have h85 : mk 85 k = m 85 k := by
            have := hck.2.2.2 k h1 (by omega)
            have e : zd1 (zAk A b k) k = zd1 A k := by unfold zd1; rw [zat, zat]
            omega
          have x11 := hX.2.2.1
          have x85 := hX.2.2.2 k h1 (by omega)
          have ho := m_owes (w := w) hK hRk hQk (b := b) (r := k) ⟨n1, n3⟩ he (zAk_d (hW.2.2.2.2.2.2.2.2 k h1 (by omega) ht)) dg.2 hb ⟨h1, by omega, (zat 0).trans ht⟩ hp (by omega) (by omega)
          have zow : ∀ j, zOwe (zAk A b k) b k j = zOwe A b k j := fun j => by
            unfold zOwe
            simp only [zat]
            rfl
          have rowlo : ∀ i, i < 34 + 26 * k + 9 ∨ 34 + 26 * k + 26 ≤ i → zOwM mk (zAk A b k) b k 79 i = mk 79 i := fun i hi => by
            unfold zOwM
            rw [if_pos rfl, if_neg (by omega)]
          have rowhi : ∀ j, 9 ≤ j → j < 26 → zOwM mk (zAk A b k) b k 79 (34 + 26 * k + j) = zOwe A b k j := fun j j1 j2 => by
            unfold zOwM
            rw [if_pos rfl, if_pos (by omega), show 34 + 26 * k + j - (34 + 26 * k) = j by omega, zow]
          have o77 : ∀ i, i ≠ 11 → zOwM mk (zAk A b k) b k 77 i = mk 77 i := fun i hi => by
            unfold zOwM
            rw [if_neg (by decide), if_neg (fun z => hi z.2), if_neg (by omega)]
          have o711 : zOwM mk (zAk A b k) b k 77 11 = mk 77 11 + 1 := by
            unfold zOwM
            rw [if_neg (by decide), if_pos ⟨rfl, rfl⟩]
          have o85 : ∀ i, zOwM mk (zAk A b k) b k 85 i = if i = k then mk 85 k + 1 else mk 85 i := fun i => by
            unfold zOwM
            rw [if_neg (by decide), if_neg (by omega)]
            by_cases e : i = k
            · rw [if_pos ⟨rfl, e⟩, if_pos e]
            · rw [if_neg (fun z => e z.2), if_neg e]
          have oc : ∀ c, c ≠ 77 → c ≠ 79 → c ≠ 85 → zOwM mk (zAk A b k) b k c = mk c := fun c c1 c2 c3 => by
            funext i
            unfold zOwM
            rw [if_neg c2, if_neg (fun z => c1 z.1), if_neg (fun z => c3 z.1)]
          have hRo : RM (zOwM mk (zAk A b k) b k) := by
            unfold RM
            simp only [o77 _ (show (1 : Int) ≠ 11 by decide), o77 _ (show (2 : Int) ≠ 11 by decide), o77 _ (show (3 : Int) ≠ 11 by decide), o77 _ (show (4 : Int) ≠ 11 by decide), o77 _ (show (6 : Int) ≠ 11 by decide), o77 _ (show (7 : Int) ≠ 11 by decide), o77 _ (show (8 : Int) ≠ 11 by decide), o77 _ (show (12 : Int) ≠ 11 by decide), o77 _ (show (13 : Int) ≠ 11 by decide), o77 _ (show (15 : Int) ≠ 11 by decide), o77 _ (show (23 : Int) ≠ 11 by decide), o77 _ (show (25 : Int) ≠ 11 by decide), o77 _ (show (26 : Int) ≠ 11 by decide)]
            exact hRk
          have q3 := he.2.2.1
          obtain ⟨m', j1, j2, j3, j4⟩ := ih (k + 1) (qa_up (zOwM mk (zAk A b k) b k) 79 (34 + 26 * k + 2) (A.2.1 b 4 + 1)) (by omega) (by omega) (by
            refine QR_rd hQk (R' := zRk A b (k + 1)) h1 (by omega) ?_ ?_ ?_ ?_ ?_
            · intro i hi
              rw [qa_up_no _ (by omega), rowlo i (by omega)]
            · intro r j hr
              exact zRk_ne hr j
            · rw [qa_up_no _ (by omega), rowlo _ (by omega), zRk_yes hlow, zOwe_lt (by decide) (by decide) q3, gJ k h1 (by omega)]
              exact zat 0
            · intro _ j j1 j2
              rw [zRk_yes hlow]
              by_cases e : j = 2
              · rw [e, qa_up_hit, zOwe_2]
              · rw [qa_up_no _ (by omega)]
                by_cases e9 : j < 9
                · rw [rowlo _ (by omega), zOwe_lt e9 e q3, gR k j h1 (by omega) ((zat 0).trans ht) j1 j2]
                  exact zat j
                · rw [rowhi j (by omega) (by omega)]
            · intro _ _ j j1 j2
              rw [zRk_yes hlow, qa_up_no _ (by omega), rowhi j (by omega) j2]) (by
            refine ⟨fun c c1 c2 c3 => ?_, fun i i1 i2 i3 => ?_⟩
            · funext i
              rw [qa_up_no _ (by omega), oc c c1 c2 c3, hfk.1 c c1 c2 c3]
            · rw [qa_up_no _ (by omega), o77 i i3, hfk.2 i i1 i2 i3]) (by
            refine ⟨?_, ?_, ?_, fun r q1 q2 => ?_⟩
            · rw [qa_up_no _ (by omega), o77 _ (by decide)]; exact hck.1
            · rw [qa_up_no _ (by omega), o77 _ (by decide)]
              have e : zbs (zAk A b (k + 1)) = zbs (zAk A b k) := by
                unfold zbs
                rw [zsum_upd (k := k) h1 (by omega) (g := fun r => if (zAk A b k).2.2.1 r 0 = 1 then (zAk A b k).2.2.1 r 6 else 0) (g' := fun r => if (zAk A b (k + 1)).2.2.1 r 0 = 1 then (zAk A b (k + 1)).2.2.1 r 6 else 0) (fun i hi => by
                  show (if zRk A b (k + 1) i 0 = 1 then zRk A b (k + 1) i 6 else 0) = if zRk A b k i 0 = 1 then zRk A b k i 6 else 0
                  rw [zRk_ne hi, zRk_ne hi])]
                simp only [zAk, zRk_at, zRk_yes hlow, zOwe_lt (show (0 : Int) < 9 by decide) (show (0 : Int) ≠ 2 by decide) q3, zOwe_lt (show (6 : Int) < 9 by decide) (show (6 : Int) ≠ 2 by decide) q3]
                omega
              rw [e]; exact hck.2.1
            · rw [qa_up_no _ (by omega), o711]
              have := hck.2.2.1
              unfold zAk at this ⊢
              omega
            · rw [qa_up_no _ (by omega), o85]
              have := hck.2.2.2 r q1 q2
              by_cases e : r = k
              · subst e
                rw [if_pos rfl]
                have e1 : zd1 (zAk A b (r + 1)) r = zd1 (zAk A b r) r + 1 := by
                  unfold zd1 zAk
                  simp only [zRk_yes hlow, zRk_at, zOwe_lt (show (0 : Int) < 9 by decide) (show (0 : Int) ≠ 2 by decide) q3]
                  rw [if_pos ht, if_pos ht]
                  simp [zOwe]
                omega
              · rw [if_neg e]
                have e1 : zd1 (zAk A b (k + 1)) r = zd1 (zAk A b k) r := by
                  unfold zd1 zAk
                  simp only [zRk_ne e]
                omega) (by unfold zAk at hd1 ⊢; omega) (by unfold zAk at hd2 ⊢; omega)
          refine ⟨m', ?_, j2, j3, j4⟩
          rw [ev_X12_cutsOne_1]
          have t2 : zOwM mk (zAk A b k) b k 77 2 = 79 := by rw [o77 _ (by decide)]; exact r2
          have t1 : zOwM mk (zAk A b k) b k 79 (6 + 7 * b + 1) = A.2.1 b 4 := by rw [rowlo _ (by omega)]; exact u1
          simp (disch := omega) [ev_X12_cutsOne_0, ev_X12_cutsOne_2, ev_X12_cutsOne_3, ev_X12_cutsOne_5, ev_X12_cutsOne_6, ev_X12_cutsOne_7, ev_X12_cutsOne_8, ev_X12_cutsOne_9, B_X12_cutsOne_0, B_X12_cutsOne_1, B_X12_cutsOne_2, B_X12_cutsOne_3, B_X12_cutsOne_4, B_X12_cutsOne_5, B_X12_cutsOne_6, B_X12_cutsOne_7, B_X12_cutsOne_8, B_X12_cutsOne_9, x_const, x_iadd, x_isub, x_imul, x_idiv, x_irem, x_ineg, x_dup, x_dup_x1, x_dup2, x_pop, x_goto, x_ifeq, x_ifne, x_iflt, x_ifge, x_ifgt, x_ifle, x_cmpeq, x_cmpne, x_cmplt, x_cmpge, x_cmpgt, x_cmple, x_null, x_nonnull, x_acmpeq, x_acmpne, x_get, x_put, x_putz, x_ald, x_ast, x_bast, x_zast, x_aast, x_alen, x_obj, x_ret, x_retz, x_vret, x_max, x_min, x_copy, x_i2l, qg_none, qg_inl, qg_inr, qg_ite, xr1, xr0, xrE, xri, xl0, xl1, xl2, xl3, xl4, xl5, xl6, xl7, xl8, xl9, xl10, xs0, xs1, xs2, xs3, xs4, xs5, xs6, xs7, xs8, xs9, xs10, xi0, xi1, xi2, xi3, xi4, xi5, xi6, xi7, xi8, xi9, xi10, xc0, xc1, xc2, xc3, xc4, xc5, xc6, xc7, xv1, xv2, xv3, xv4, xv5, xv6, xv7, dT_le, dF_le, dT_lt, dF_lt, k77, k79, r2, hi, m_ofReader hK hRk, m_ofBranch hK hRk, m_ofBranch hK hRo, m_readerAt, e2, u1', hl, ho, t1, t2, j1]
        · obtain ⟨m', j1, j2, j3, j4⟩ := ih (k + 1) mk (by omega) (by omega) (by unfold zAk; rw [zRk_no (fun z => hl z.2)]; exact hQk) hfk (by unfold zAk; rw [zRk_no (fun z => hl z.2)]; exact hck) (by unfold zAk; rw [zRk_no (fun z => hl z.2)]; exact hd1) (by unfold zAk; rw [zRk_no (fun z => hl z.2)]; unfold zAk at hd2; omega)
          refine ⟨m', ?_, j2, j3, j4⟩
          rw [ev_X12_cutsOne_1]
          simp (disch := omega) [ev_X12_cutsOne_0, ev_X12_cutsOne_2, ev_X12_cutsOne_3, ev_X12_cutsOne_5, ev_X12_cutsOne_6, ev_X12_cutsOne_7, ev_X12_cutsOne_8, ev_X12_cutsOne_9, B_X12_cutsOne_0, B_X12_cutsOne_1, B_X12_cutsOne_2, B_X12_cutsOne_3, B_X12_cutsOne_4, B_X12_cutsOne_5, B_X12_cutsOne_6, B_X12_cutsOne_7, B_X12_cutsOne_8, B_X12_cutsOne_9, x_const, x_iadd, x_isub, x_imul, x_idiv, x_irem, x_ineg, x_dup, x_dup_x1, x_dup2, x_pop, x_goto, x_ifeq, x_ifne, x_iflt, x_ifge, x_ifgt, x_ifle, x_cmpeq, x_cmpne, x_cmplt, x_cmpge, x_cmpgt, x_cmple, x_null, x_nonnull, x_acmpeq, x_acmpne, x_get, x_put, x_putz, x_ald, x_ast, x_bast, x_zast, x_aast, x_alen, x_obj, x_ret, x_retz, x_vret, x_max, x_min, x_copy, x_i2l, qg_none, qg_inl, qg_inr, qg_ite, xr1, xr0, xrE, xri, xl0, xl1, xl2, xl3, xl4, xl5, xl6, xl7, xl8, xl9, xl10, xs0, xs1, xs2, xs3, xs4, xs5, xs6, xs7, xs8, xs9, xs10, xi0, xi1, xi2, xi3, xi4, xi5, xi6, xi7, xi8, xi9, xi10, xc0, xc1, xc2, xc3, xc4, xc5, xc6, xc7, xv1, xv2, xv3, xv4, xv5, xv6, xv7, dT_le, dF_le, dT_lt, dF_lt, k77, k79, r2, hi, m_ofReader hK hRk, m_ofBranch hK hRk, e2, u1', hl, j1]
      · rw [if_neg (fun z => hin (hzin.mp z))] at hi
        obtain ⟨m', j1, j2, j3, j4⟩ := ih (k + 1) mk (by omega) (by omega) (by unfold zAk; rw [zRk_no (fun z => hin z.1)]; exact hQk) hfk (by unfold zAk; rw [zRk_no (fun z => hin z.1)]; exact hck) (by unfold zAk; rw [zRk_no (fun z => hin z.1)]; exact hd1) (by unfold zAk; rw [zRk_no (fun z => hin z.1)]; unfold zAk at hd2; omega)
        refine ⟨m', ?_, j2, j3, j4⟩
        rw [ev_X12_cutsOne_1]
        simp (disch := omega) [ev_X12_cutsOne_0, ev_X12_cutsOne_2, ev_X12_cutsOne_3, ev_X12_cutsOne_5, ev_X12_cutsOne_6, ev_X12_cutsOne_7, ev_X12_cutsOne_8, ev_X12_cutsOne_9, B_X12_cutsOne_0, B_X12_cutsOne_1, B_X12_cutsOne_2, B_X12_cutsOne_3, B_X12_cutsOne_4, B_X12_cutsOne_5, B_X12_cutsOne_6, B_X12_cutsOne_7, B_X12_cutsOne_8, B_X12_cutsOne_9, x_const, x_iadd, x_isub, x_imul, x_idiv, x_irem, x_ineg, x_dup, x_dup_x1, x_dup2, x_pop, x_goto, x_ifeq, x_ifne, x_iflt, x_ifge, x_ifgt, x_ifle, x_cmpeq, x_cmpne, x_cmplt, x_cmpge, x_cmpgt, x_cmple, x_null, x_nonnull, x_acmpeq, x_acmpne, x_get, x_put, x_putz, x_ald, x_ast, x_bast, x_zast, x_aast, x_alen, x_obj, x_ret, x_retz, x_vret, x_max, x_min, x_copy, x_i2l, qg_none, qg_inl, qg_inr, qg_ite, xr1, xr0, xrE, xri, xl0, xl1, xl2, xl3, xl4, xl5, xl6, xl7, xl8, xl9, xl10, xs0, xs1, xs2, xs3, xs4, xs5, xs6, xs7, xs8, xs9, xs10, xi0, xi1, xi2, xi3, xi4, xi5, xi6, xi7, xi8, xi9, xi10, xc0, xc1, xc2, xc3, xc4, xc5, xc6, xc7, xv1, xv2, xv3, xv4, xv5, xv6, xv7, dT_le, dF_le, dT_lt, dF_lt, k77, hi, j1]
  have hz : zAk A b 0 = A := by
    unfold zAk
    have : zRk A b 0 = A.2.2.1 := by
      funext r j
      unfold zRk
      rw [if_neg (fun z => by have := z.2.1.1.1; omega)]
    rw [this]
  obtain ⟨m', j1, j2, j3, j4⟩ := loop 6 0 m (by decide) (by decide) (by rw [hz]; exact hQ) (zfm.refl m) (by rw [hz]; exact zcn.refl m A) (by rw [hz]; omega) (by rw [hz]; omega)
  refine ⟨m', j1, j2, j3, j4, ?_⟩
  have := j4.1
  have e : zgs (zAk A b 6) = zgs A := rfl
  omega
