def zOwM (m : Int → Int → Int) (A : zA) (b r : Int) : Int → Int → Int := fun c i => if c = 79 then (if 34 + 26 * r + 9 ≤ i ∧ i < 34 + 26 * r + 26 then zOwe A b r (i - (34 + 26 * r)) else m 79 i) else if c = 77 ∧ i = 11 then m 77 11 + 1 else if c = 85 ∧ i = r then m 85 r + 1 else m c i
def zfl (m : Int → Int → Int) (s k v : Int) : Int → Int → Int := fun c i => if c = 79 ∧ s ≤ i ∧ i < s + k then v else m c i
theorem zfl_up {m : Int → Int → Int} {s k v : Int} (hk : 0 ≤ k) : qa_up (zfl m s k v) 79 (s + k) v = zfl m s (k + 1) v := by
  funext c i
  unfold qa_up zfl
  by_cases hc : c = 79
  · by_cases hi : i = s + k
    · rw [if_pos ⟨hc, hi⟩, if_pos ⟨hc, by omega, by omega⟩]
    · rw [if_neg (fun z => hi z.2)]
      by_cases h : s ≤ i ∧ i < s + k
      · rw [if_pos ⟨hc, h⟩, if_pos ⟨hc, by omega, by omega⟩]
      · rw [if_neg (fun z => h z.2), if_neg (by omega)]
  · rw [if_neg (fun z => hc z.1), if_neg (fun z => hc z.1), if_neg (fun z => hc z.1)]
theorem zfl_0 {m : Int → Int → Int} {s v : Int} : zfl m s 0 v = m := by
  funext c i
  exact if_neg (by omega)
theorem zfl_no {m : Int → Int → Int} {s k v c i : Int} (h : c ≠ 79 ∨ i < s ∨ s + k ≤ i) : zfl m s k v c i = m c i := if_neg (by omega)
theorem RM_u {m : Int → Int → Int} {i v : Int} : RM (qa_up m 79 i v) = RM m := by
  unfold RM
  simp [qa_up]
theorem RM_f {m : Int → Int → Int} {s k v : Int} : RM (zfl m s k v) = RM m := by
  unfold RM
  simp only [zfl_no (m := m) (s := s) (k := k) (v := v) (Or.inl (show (77 : Int) ≠ 79 by decide))]
theorem RM_o {m : Int → Int → Int} {v : Int} : RM (qa_up m 77 11 v) = RM m := by
  unfold RM
  simp [qa_up]
theorem m_sizeR {m : Int → Int → Int} {kd : Int → Nat × Int} {w : Nat × Nat × Nat} (hK : KM kd) {b k : Int} (hR : RM m) (h1 : 0 ≤ b) (h2 : b < 4) (h3 : 0 ≤ k) (h4 : k < 1804) (hp : 0 ≤ m 79 (7406 + (1804 * b + k))) : f_X12_sizeOf [(1, 77), (0, b), (0, k)] (m, kd, w) = some (.inl (some (0, m 79 (7406 + (1804 * b + k)) / 200 % 10)), (m, kd, w)) := by
  obtain ⟨k77, k78, k79, k80, k81, k82, k83, k84, k85, k86, k87, k88, k89, k90⟩ := id hK
  obtain ⟨r1, r2, r3, r4, r6, r7, r8, r12, r13, r15, r23, r25, r26⟩ := id hR
  unfold f_X12_sizeOf
  refine qa_fn_eq ?_ (by simp)
  simp (disch := omega) [ev_X12_sizeOf_0, B_X12_sizeOf_0, x_const, x_iadd, x_isub, x_imul, x_idiv, x_irem, x_ineg, x_dup, x_dup_x1, x_dup2, x_pop, x_goto, x_ifeq, x_ifne, x_iflt, x_ifge, x_ifgt, x_ifle, x_cmpeq, x_cmpne, x_cmplt, x_cmpge, x_cmpgt, x_cmple, x_null, x_nonnull, x_acmpeq, x_acmpne, x_get, x_put, x_putz, x_ald, x_ast, x_bast, x_zast, x_aast, x_alen, x_obj, x_ret, x_retz, x_vret, x_max, x_min, x_copy, x_i2l, qg_none, qg_inl, qg_inr, qg_ite, xr1, xr0, xrE, xri, xl0, xl1, xl2, xl3, xl4, xl5, xl6, xl7, xl8, xl9, xl10, xs0, xs1, xs2, xs3, xs4, xs5, xs6, xs7, xs8, xs9, xs10, xi0, xi1, xi2, xi3, xi4, xi5, xi6, xi7, xi8, xi9, xi10, xc0, xc1, xc2, xc3, xc4, xc5, xc6, xc7, xv1, xv2, xv3, xv4, xv5, xv6, xv7, dT_le, dF_le, dT_lt, dF_lt, k77, k79, r2, m_entryAt]
theorem m_keyR {m : Int → Int → Int} {kd : Int → Nat × Int} {w : Nat × Nat × Nat} (hK : KM kd) {b k : Int} (hR : RM m) (h1 : 0 ≤ b) (h2 : b < 4) (h3 : 0 ≤ k) (h4 : k < 1804) (hp : 0 ≤ m 79 (7406 + (1804 * b + k))) : f_X12_keyOf [(1, 77), (0, b), (0, k)] (m, kd, w) = some (.inl (some (0, m 79 (7406 + (1804 * b + k)) / 2000)), (m, kd, w)) := by
  obtain ⟨k77, k78, k79, k80, k81, k82, k83, k84, k85, k86, k87, k88, k89, k90⟩ := id hK
  obtain ⟨r1, r2, r3, r4, r6, r7, r8, r12, r13, r15, r23, r25, r26⟩ := id hR
  unfold f_X12_keyOf
  refine qa_fn_eq ?_ (by simp)
  simp (disch := omega) [ev_X12_keyOf_0, B_X12_keyOf_0, x_const, x_iadd, x_isub, x_imul, x_idiv, x_irem, x_ineg, x_dup, x_dup_x1, x_dup2, x_pop, x_goto, x_ifeq, x_ifne, x_iflt, x_ifge, x_ifgt, x_ifle, x_cmpeq, x_cmpne, x_cmplt, x_cmpge, x_cmpgt, x_cmple, x_null, x_nonnull, x_acmpeq, x_acmpne, x_get, x_put, x_putz, x_ald, x_ast, x_bast, x_zast, x_aast, x_alen, x_obj, x_ret, x_retz, x_vret, x_max, x_min, x_copy, x_i2l, qg_none, qg_inl, qg_inr, qg_ite, xr1, xr0, xrE, xri, xl0, xl1, xl2, xl3, xl4, xl5, xl6, xl7, xl8, xl9, xl10, xs0, xs1, xs2, xs3, xs4, xs5, xs6, xs7, xs8, xs9, xs10, xi0, xi1, xi2, xi3, xi4, xi5, xi6, xi7, xi8, xi9, xi10, xc0, xc1, xc2, xc3, xc4, xc5, xc6, xc7, xv1, xv2, xv3, xv4, xv5, xv6, xv7, dT_le, dF_le, dT_lt, dF_lt, k77, k79, r2, m_entryAt]
theorem zOwe_ge {A : zA} {b r j : Int} (h : 16 ≤ j) (hk : 0 ≤ A.2.2.2 b (A.2.1 b 4) 1) : zOwe A b r j = if j = 16 + A.2.2.2 b (A.2.1 b 4) 1 then A.2.2.2 b (A.2.1 b 4) 3 else A.2.2.1 r j := by
  unfold zOwe
  rw [if_neg (by omega), if_neg (by omega), if_neg (by omega), if_neg (by omega), if_neg (by omega), if_neg (by omega), if_neg (by omega), if_neg (by omega)]
theorem zOw_eq {m mb : Int → Int → Int} {A : zA} {b r L G : Int} (hk : 0 ≤ A.2.2.2 b (A.2.1 b 4) 1 ∧ A.2.2.2 b (A.2.1 b 4) 1 ≤ 9) (hL : L = zOwe A b r 12) (hG : G = zOwe A b r 13) (h14 : mb 79 (34 + 26 * r + 14) = zOwe A b r 14) (hkeys : ∀ j, 16 ≤ j → j < 26 → mb 79 (34 + 26 * r + j) = A.2.2.1 r j) (hmb : ∀ i, i < 34 + 26 * r + 9 ∨ 34 + 26 * r + 26 ≤ i → mb 79 i = m 79 i) (hmc : ∀ c, c ≠ 79 → mb c = m c) :
    qa_up (qa_up (qa_up (qa_up (qa_up (qa_up (qa_up (qa_up (qa_up mb 79 (34 + 26 * r + 12) L) 79 (34 + 26 * r + 13) G) 79 (34 + 26 * r + 9) (A.2.2.1 r 9 + 1)) 79 (34 + 26 * r + 10) (A.2.2.1 r 10 + A.2.2.2 b (A.2.1 b 4) 2)) 79 (34 + 26 * r + 11) (A.2.2.1 r 11 + A.2.2.2 b (A.2.1 b 4) 3)) 79 (34 + 26 * r + 15) (A.2.1 b 4)) 79 (34 + 26 * r + 16 + A.2.2.2 b (A.2.1 b 4) 1) (A.2.2.2 b (A.2.1 b 4) 3)) 77 11 (m 77 11 + 1)) 85 r (m 85 r + 1) = zOwM m A b r := by
  funext c i
  by_cases hc : c = 79
  · subst hc
    unfold zOwM
    rw [if_pos rfl, qa_up_no _ (by omega), qa_up_no _ (by omega)]
    by_cases hi : 34 + 26 * r + 9 ≤ i ∧ i < 34 + 26 * r + 26
    · rw [if_pos hi]
      obtain ⟨j, rfl⟩ : ∃ j, i = 34 + 26 * r + j := ⟨i - (34 + 26 * r), by omega⟩
      rw [show 34 + 26 * r + j - (34 + 26 * r) = j by omega]
      by_cases h16 : 16 ≤ j
      · rw [zOwe_ge h16 hk.1]
        by_cases e : j = 16 + A.2.2.2 b (A.2.1 b 4) 1
        · rw [if_pos e, qa_up_at _ (by omega)]
        · rw [if_neg e, qa_up_no _ (by omega), qa_up_no _ (by omega), qa_up_no _ (by omega), qa_up_no _ (by omega), qa_up_no _ (by omega), qa_up_no _ (by omega), qa_up_no _ (by omega), hkeys j h16 (by omega)]
      · rw [qa_up_no _ (by omega)]
        have : j = 9 ∨ j = 10 ∨ j = 11 ∨ j = 12 ∨ j = 13 ∨ j = 14 ∨ j = 15 := by omega
        rcases this with rfl | rfl | rfl | rfl | rfl | rfl | rfl
        · rw [qa_up_no _ (by omega), qa_up_no _ (by omega), qa_up_no _ (by omega), qa_up_hit]; simp [zOwe]
        · rw [qa_up_no _ (by omega), qa_up_no _ (by omega), qa_up_hit]; simp [zOwe]
        · rw [qa_up_no _ (by omega), qa_up_hit]; simp [zOwe]
        · rw [qa_up_no _ (by omega), qa_up_no _ (by omega), qa_up_no _ (by omega), qa_up_no _ (by omega), qa_up_no _ (by omega), qa_up_hit]; exact hL
        · rw [qa_up_no _ (by omega), qa_up_no _ (by omega), qa_up_no _ (by omega), qa_up_no _ (by omega), qa_up_hit]; exact hG
        · rw [qa_up_no _ (by omega), qa_up_no _ (by omega), qa_up_no _ (by omega), qa_up_no _ (by omega), qa_up_no _ (by omega), qa_up_no _ (by omega)]; exact h14
        · rw [qa_up_hit]; simp [zOwe]
    · rw [if_neg hi, qa_up_no _ (by omega), qa_up_no _ (by omega), qa_up_no _ (by omega), qa_up_no _ (by omega), qa_up_no _ (by omega), qa_up_no _ (by omega), qa_up_no _ (by omega)]
      exact hmb i (by omega)
  · unfold zOwM
    rw [if_neg hc]
    by_cases h85 : c = 85 ∧ i = r
    · rw [qa_up_at _ h85, if_neg (by omega), if_pos h85]
    · rw [qa_up_no _ h85]
      by_cases h77 : c = 77 ∧ i = 11
      · rw [qa_up_at _ h77, if_pos h77]
      · rw [qa_up_no _ h77, if_neg h77, if_neg h85, qa_up_no _ (by omega), qa_up_no _ (by omega), qa_up_no _ (by omega), qa_up_no _ (by omega), qa_up_no _ (by omega), qa_up_no _ (by omega), qa_up_no _ (by omega), hmc c hc]
theorem m_owes {m : Int → Int → Int} {kd : Int → Nat × Int} {w : Nat × Nat × Nat} {A : zA} (hK : KM kd) (hR : RM m) (hQ : QR A (m 79)) {b r : Int} (hn : 0 ≤ A.2.1 b 4 ∧ A.2.1 b 5 ≤ 512) (he : zWe A b (A.2.1 b 4)) (hd : zWd A r) (dg : zgs A ≤ 500000) (hb : zBl A b) (hr : zRl A r) (hp : A.2.1 b 4 < A.2.1 b 5) (h11 : -100000000 ≤ m 77 11 ∧ m 77 11 < 100000000) (h85 : -100000000 ≤ m 85 r ∧ m 85 r < 100000000) : f_X12_owes [(1, 77), (0, r), (0, b)] (m, kd, w) = some (.inl none, (zOwM m A b r, kd, w)) := by
  obtain ⟨k77, k78, k79, k80, k81, k82, k83, k84, k85, k86, k87, k88, k89, k90⟩ := id hK
  obtain ⟨r1, r2, r3, r4, r6, r7, r8, r12, r13, r15, r23, r25, r26⟩ := id hR
  obtain ⟨g0, g1, gC, gI, gB, gJ, gR, gD, gE⟩ := id hQ
  obtain ⟨b1, b2, b3⟩ := id hb
  obtain ⟨s1, s2, s3⟩ := id hr
  obtain ⟨u1, u2, u3⟩ := gB b b1 b2 b3
  obtain ⟨n1, n3⟩ := id hn
  obtain ⟨q1, q2, q3, q4, q5, q6, q7, q8⟩ := id he
  obtain ⟨d1, d2, d3, d4, d5, d6, d7⟩ := id hd
  have a9 := gR r 9 s1 s2 s3 (by decide) (by decide)
  have a10 := gR r 10 s1 s2 s3 (by decide) (by decide)
  have a11 := gR r 11 s1 s2 s3 (by decide) (by decide)
  have hv := m_valueOf (w := w) hK hR hQ (k := 0) hb (by omega) (by decide) (by omega) (by rw [Int.add_zero]; exact he)
  rw [Int.add_zero] at hv
  have uE := (gE b 0 b1 b2 b3 (Int.le_refl _) (by omega)).2
  rw [Int.add_zero, Int.add_zero] at uE
  have uK : m 79 (7406 + 1804 * b) / 2000 = A.2.2.2 b (A.2.1 b 4) 1 := by omega
  have uS : m 79 (7406 + 1804 * b) / 200 % 10 = A.2.2.2 b (A.2.1 b 4) 2 := by omega
  have uP : 0 ≤ m 79 (7406 + 1804 * b) := by omega
  by_cases c0 : A.2.2.1 r 9 = 0
  · obtain ⟨z10, z11, z12, z13, z14, z15, z16⟩ := d7 c0
    have loop : ∀ (n : Nat) (k : Int), 0 ≤ k → k + n = 10 → qa_ev P_X12_owes 3 [(1, 77), (0, r), (0, b), (0, 34 + 26 * r), (0, A.2.2.2 b (A.2.1 b 4) 3), (0, 1), (0, k)] [] (zfl (qa_up m 79 (34 + 26 * r + 14) (A.2.1 b 4)) (34 + 26 * r + 16) k (-1000), kd, w) = qa_ev P_X12_owes 4 [(1, 77), (0, r), (0, b), (0, 34 + 26 * r), (0, A.2.2.2 b (A.2.1 b 4) 3), (0, 1), (0, 10)] [] (zfl (qa_up m 79 (34 + 26 * r + 14) (A.2.1 b 4)) (34 + 26 * r + 16) 10 (-1000), kd, w) := by
      intro n
      induction n with
      | zero =>
        intro k h1 h2
        obtain rfl : k = 10 := by omega
        rw [ev_X12_owes_3]
        simp (disch := omega) [B_X12_owes_3, x_const, x_iadd, x_isub, x_imul, x_idiv, x_irem, x_ineg, x_dup, x_dup_x1, x_dup2, x_pop, x_goto, x_ifeq, x_ifne, x_iflt, x_ifge, x_ifgt, x_ifle, x_cmpeq, x_cmpne, x_cmplt, x_cmpge, x_cmpgt, x_cmple, x_null, x_nonnull, x_acmpeq, x_acmpne, x_get, x_put, x_putz, x_ald, x_ast, x_bast, x_zast, x_aast, x_alen, x_obj, x_ret, x_retz, x_vret, x_max, x_min, x_copy, x_i2l, qg_none, qg_inl, qg_inr, qg_ite, xr1, xr0, xrE, xri, xl0, xl1, xl2, xl3, xl4, xl5, xl6, xl7, xl8, xl9, xl10, xs0, xs1, xs2, xs3, xs4, xs5, xs6, xs7, xs8, xs9, xs10, xi0, xi1, xi2, xi3, xi4, xi5, xi6, xi7, xi8, xi9, xi10, xc0, xc1, xc2, xc3, xc4, xc5, xc6, xc7, xv1, xv2, xv3, xv4, xv5, xv6, xv7, dT_le, dF_le, dT_lt, dF_lt]
      | succ n ih =>
        intro k h1 h2
        have ih' := ih (k + 1) (by omega) (by omega)
        have t2 : zfl (qa_up m 79 (34 + 26 * r + 14) (A.2.1 b 4)) (34 + 26 * r + 16) k (-1000) 77 2 = 79 := by
          rw [zfl_no (by omega), qa_up_no _ (by omega)]; exact r2
        rw [ev_X12_owes_3]
        simp (disch := omega) [B_X12_owes_3, x_const, x_iadd, x_isub, x_imul, x_idiv, x_irem, x_ineg, x_dup, x_dup_x1, x_dup2, x_pop, x_goto, x_ifeq, x_ifne, x_iflt, x_ifge, x_ifgt, x_ifle, x_cmpeq, x_cmpne, x_cmplt, x_cmpge, x_cmpgt, x_cmple, x_null, x_nonnull, x_acmpeq, x_acmpne, x_get, x_put, x_putz, x_ald, x_ast, x_bast, x_zast, x_aast, x_alen, x_obj, x_ret, x_retz, x_vret, x_max, x_min, x_copy, x_i2l, qg_none, qg_inl, qg_inr, qg_ite, xr1, xr0, xrE, xri, xl0, xl1, xl2, xl3, xl4, xl5, xl6, xl7, xl8, xl9, xl10, xs0, xs1, xs2, xs3, xs4, xs5, xs6, xs7, xs8, xs9, xs10, xi0, xi1, xi2, xi3, xi4, xi5, xi6, xi7, xi8, xi9, xi10, xc0, xc1, xc2, xc3, xc4, xc5, xc6, xc7, xv1, xv2, xv3, xv4, xv5, xv6, xv7, dT_le, dF_le, dT_lt, dF_lt, k77, k79, t2, zfl_up h1, ih']
    have lp := loop 10 0 (by decide) (by decide)
    rw [zfl_0] at lp
    have hze := zOw_eq (m := m) (mb := zfl (qa_up m 79 (34 + 26 * r + 14) (A.2.1 b 4)) (34 + 26 * r + 16) 10 (-1000)) (A := A) (b := b) (r := r) (L := A.2.2.2 b (A.2.1 b 4) 3) (G := A.2.2.2 b (A.2.1 b 4) 3) ⟨q3, q4⟩ (by simp [zOwe, c0]) (by simp [zOwe, c0]) (by rw [zfl_no (by omega), qa_up_hit]; simp [zOwe, c0]) (fun j j1 j2 => by
      rw [z16 j j1 j2]
      exact if_pos ⟨rfl, by omega, by omega⟩) (fun i hi => by rw [zfl_no (by omega), qa_up_no _ (by omega)]) (fun c hc => by
      funext i
      rw [zfl_no (Or.inl hc), qa_up_no _ (by omega)])
    rw [← hze]
    unfold f_X12_owes
    refine qa_fn_eq ?_ (by simp)
    simp (disch := (first | (simp only [RM_u, RM_f, RM_o, hR]; done) | omega | (simp (disch := omega) only [Int.add_zero, qa_up_no, zfl_no]; omega))) [ev_X12_owes_0, ev_X12_owes_1, ev_X12_owes_2, ev_X12_owes_4, ev_X12_owes_5, ev_X12_owes_6, ev_X12_owes_7, ev_X12_owes_8, ev_X12_owes_9, ev_X12_owes_10, ev_X12_owes_11, ev_X12_owes_12, B_X12_owes_0, B_X12_owes_1, B_X12_owes_2, B_X12_owes_3, B_X12_owes_4, B_X12_owes_5, B_X12_owes_6, B_X12_owes_7, B_X12_owes_8, B_X12_owes_9, B_X12_owes_10, B_X12_owes_11, B_X12_owes_12, x_const, x_iadd, x_isub, x_imul, x_idiv, x_irem, x_ineg, x_dup, x_dup_x1, x_dup2, x_pop, x_goto, x_ifeq, x_ifne, x_iflt, x_ifge, x_ifgt, x_ifle, x_cmpeq, x_cmpne, x_cmplt, x_cmpge, x_cmpgt, x_cmple, x_null, x_nonnull, x_acmpeq, x_acmpne, x_get, x_put, x_putz, x_ald, x_ast, x_bast, x_zast, x_aast, x_alen, x_obj, x_ret, x_retz, x_vret, x_max, x_min, x_copy, x_i2l, qg_none, qg_inl, qg_inr, qg_ite, xr1, xr0, xrE, xri, xl0, xl1, xl2, xl3, xl4, xl5, xl6, xl7, xl8, xl9, xl10, xs0, xs1, xs2, xs3, xs4, xs5, xs6, xs7, xs8, xs9, xs10, xi0, xi1, xi2, xi3, xi4, xi5, xi6, xi7, xi8, xi9, xi10, xc0, xc1, xc2, xc3, xc4, xc5, xc6, xc7, xv1, xv2, xv3, xv4, xv5, xv6, xv7, dT_le, dF_le, dT_lt, dF_lt, dT_eq, dF_eq, qa_up_hit, qa_up_no, k77, k79, k85, r2, r12, hv, m_readerAt, m_ofBranch hK, m_sizeR hK, m_keyR hK, a9, a10, a11, c0, u1, uK, uS, uP, lp, zfl_no]
  · have a12 := gD r 12 s1 s2 s3 c0 (by decide) (by decide)
    have a13 := gD r 13 s1 s2 s3 c0 (by decide) (by decide)
    have hze := fun L G h1 h2 => zOw_eq (m := m) (mb := m) (A := A) (b := b) (r := r) (L := L) (G := G) ⟨q3, q4⟩ h1 h2 (by rw [gD r 14 s1 s2 s3 c0 (by decide) (by decide)]; simp [zOwe, c0]) (fun j j1 j2 => gD r j s1 s2 s3 c0 (by omega) j2) (fun i hi => rfl) (fun c hc => rfl)
    unfold f_X12_owes
    refine qa_fn_eq ?_ (by simp)
    by_cases c1 : A.2.2.2 b (A.2.1 b 4) 3 < A.2.2.1 r 12
    · by_cases c2 : A.2.2.1 r 13 < A.2.2.2 b (A.2.1 b 4) 3
      · simp (disch := (first | (simp only [RM_u, RM_f, RM_o, hR]; done) | omega | (simp (disch := omega) only [Int.add_zero, qa_up_no, zfl_no]; omega))) [ev_X12_owes_0, ev_X12_owes_1, ev_X12_owes_2, ev_X12_owes_4, ev_X12_owes_5, ev_X12_owes_6, ev_X12_owes_7, ev_X12_owes_8, ev_X12_owes_9, ev_X12_owes_10, ev_X12_owes_11, ev_X12_owes_12, B_X12_owes_0, B_X12_owes_1, B_X12_owes_2, B_X12_owes_3, B_X12_owes_4, B_X12_owes_5, B_X12_owes_6, B_X12_owes_7, B_X12_owes_8, B_X12_owes_9, B_X12_owes_10, B_X12_owes_11, B_X12_owes_12, x_const, x_iadd, x_isub, x_imul, x_idiv, x_irem, x_ineg, x_dup, x_dup_x1, x_dup2, x_pop, x_goto, x_ifeq, x_ifne, x_iflt, x_ifge, x_ifgt, x_ifle, x_cmpeq, x_cmpne, x_cmplt, x_cmpge, x_cmpgt, x_cmple, x_null, x_nonnull, x_acmpeq, x_acmpne, x_get, x_put, x_putz, x_ald, x_ast, x_bast, x_zast, x_aast, x_alen, x_obj, x_ret, x_retz, x_vret, x_max, x_min, x_copy, x_i2l, qg_none, qg_inl, qg_inr, qg_ite, xr1, xr0, xrE, xri, xl0, xl1, xl2, xl3, xl4, xl5, xl6, xl7, xl8, xl9, xl10, xs0, xs1, xs2, xs3, xs4, xs5, xs6, xs7, xs8, xs9, xs10, xi0, xi1, xi2, xi3, xi4, xi5, xi6, xi7, xi8, xi9, xi10, xc0, xc1, xc2, xc3, xc4, xc5, xc6, xc7, xv1, xv2, xv3, xv4, xv5, xv6, xv7, dT_le, dF_le, dT_lt, dF_lt, dT_eq, dF_eq, qa_up_hit, qa_up_no, k77, k79, k85, r2, r12, hv, m_readerAt, m_ofBranch hK, m_sizeR hK, m_keyR hK, a9, a10, a11, a12, a13, c0, c1, c2, u1, uK, uS, uP]
        exact hze _ _ (by simp [zOwe, c1]) (by simp [zOwe, c2])
      · simp (disch := (first | (simp only [RM_u, RM_f, RM_o, hR]; done) | omega | (simp (disch := omega) only [Int.add_zero, qa_up_no, zfl_no]; omega))) [ev_X12_owes_0, ev_X12_owes_1, ev_X12_owes_2, ev_X12_owes_4, ev_X12_owes_5, ev_X12_owes_6, ev_X12_owes_7, ev_X12_owes_8, ev_X12_owes_9, ev_X12_owes_10, ev_X12_owes_11, ev_X12_owes_12, B_X12_owes_0, B_X12_owes_1, B_X12_owes_2, B_X12_owes_3, B_X12_owes_4, B_X12_owes_5, B_X12_owes_6, B_X12_owes_7, B_X12_owes_8, B_X12_owes_9, B_X12_owes_10, B_X12_owes_11, B_X12_owes_12, x_const, x_iadd, x_isub, x_imul, x_idiv, x_irem, x_ineg, x_dup, x_dup_x1, x_dup2, x_pop, x_goto, x_ifeq, x_ifne, x_iflt, x_ifge, x_ifgt, x_ifle, x_cmpeq, x_cmpne, x_cmplt, x_cmpge, x_cmpgt, x_cmple, x_null, x_nonnull, x_acmpeq, x_acmpne, x_get, x_put, x_putz, x_ald, x_ast, x_bast, x_zast, x_aast, x_alen, x_obj, x_ret, x_retz, x_vret, x_max, x_min, x_copy, x_i2l, qg_none, qg_inl, qg_inr, qg_ite, xr1, xr0, xrE, xri, xl0, xl1, xl2, xl3, xl4, xl5, xl6, xl7, xl8, xl9, xl10, xs0, xs1, xs2, xs3, xs4, xs5, xs6, xs7, xs8, xs9, xs10, xi0, xi1, xi2, xi3, xi4, xi5, xi6, xi7, xi8, xi9, xi10, xc0, xc1, xc2, xc3, xc4, xc5, xc6, xc7, xv1, xv2, xv3, xv4, xv5, xv6, xv7, dT_le, dF_le, dT_lt, dF_lt, dT_eq, dF_eq, qa_up_hit, qa_up_no, k77, k79, k85, r2, r12, hv, m_readerAt, m_ofBranch hK, m_sizeR hK, m_keyR hK, a9, a10, a11, a12, a13, c0, c1, c2, u1, uK, uS, uP]
        exact hze _ _ (by simp [zOwe, c1]) (by simp [zOwe, c0, c2])
    · by_cases c2 : A.2.2.1 r 13 < A.2.2.2 b (A.2.1 b 4) 3
      · simp (disch := (first | (simp only [RM_u, RM_f, RM_o, hR]; done) | omega | (simp (disch := omega) only [Int.add_zero, qa_up_no, zfl_no]; omega))) [ev_X12_owes_0, ev_X12_owes_1, ev_X12_owes_2, ev_X12_owes_4, ev_X12_owes_5, ev_X12_owes_6, ev_X12_owes_7, ev_X12_owes_8, ev_X12_owes_9, ev_X12_owes_10, ev_X12_owes_11, ev_X12_owes_12, B_X12_owes_0, B_X12_owes_1, B_X12_owes_2, B_X12_owes_3, B_X12_owes_4, B_X12_owes_5, B_X12_owes_6, B_X12_owes_7, B_X12_owes_8, B_X12_owes_9, B_X12_owes_10, B_X12_owes_11, B_X12_owes_12, x_const, x_iadd, x_isub, x_imul, x_idiv, x_irem, x_ineg, x_dup, x_dup_x1, x_dup2, x_pop, x_goto, x_ifeq, x_ifne, x_iflt, x_ifge, x_ifgt, x_ifle, x_cmpeq, x_cmpne, x_cmplt, x_cmpge, x_cmpgt, x_cmple, x_null, x_nonnull, x_acmpeq, x_acmpne, x_get, x_put, x_putz, x_ald, x_ast, x_bast, x_zast, x_aast, x_alen, x_obj, x_ret, x_retz, x_vret, x_max, x_min, x_copy, x_i2l, qg_none, qg_inl, qg_inr, qg_ite, xr1, xr0, xrE, xri, xl0, xl1, xl2, xl3, xl4, xl5, xl6, xl7, xl8, xl9, xl10, xs0, xs1, xs2, xs3, xs4, xs5, xs6, xs7, xs8, xs9, xs10, xi0, xi1, xi2, xi3, xi4, xi5, xi6, xi7, xi8, xi9, xi10, xc0, xc1, xc2, xc3, xc4, xc5, xc6, xc7, xv1, xv2, xv3, xv4, xv5, xv6, xv7, dT_le, dF_le, dT_lt, dF_lt, dT_eq, dF_eq, qa_up_hit, qa_up_no, k77, k79, k85, r2, r12, hv, m_readerAt, m_ofBranch hK, m_sizeR hK, m_keyR hK, a9, a10, a11, a12, a13, c0, c1, c2, u1, uK, uS, uP]
        exact hze _ _ (by simp [zOwe, c0, c1]) (by simp [zOwe, c2])
      · simp (disch := (first | (simp only [RM_u, RM_f, RM_o, hR]; done) | omega | (simp (disch := omega) only [Int.add_zero, qa_up_no, zfl_no]; omega))) [ev_X12_owes_0, ev_X12_owes_1, ev_X12_owes_2, ev_X12_owes_4, ev_X12_owes_5, ev_X12_owes_6, ev_X12_owes_7, ev_X12_owes_8, ev_X12_owes_9, ev_X12_owes_10, ev_X12_owes_11, ev_X12_owes_12, B_X12_owes_0, B_X12_owes_1, B_X12_owes_2, B_X12_owes_3, B_X12_owes_4, B_X12_owes_5, B_X12_owes_6, B_X12_owes_7, B_X12_owes_8, B_X12_owes_9, B_X12_owes_10, B_X12_owes_11, B_X12_owes_12, x_const, x_iadd, x_isub, x_imul, x_idiv, x_irem, x_ineg, x_dup, x_dup_x1, x_dup2, x_pop, x_goto, x_ifeq, x_ifne, x_iflt, x_ifge, x_ifgt, x_ifle, x_cmpeq, x_cmpne, x_cmplt, x_cmpge, x_cmpgt, x_cmple, x_null, x_nonnull, x_acmpeq, x_acmpne, x_get, x_put, x_putz, x_ald, x_ast, x_bast, x_zast, x_aast, x_alen, x_obj, x_ret, x_retz, x_vret, x_max, x_min, x_copy, x_i2l, qg_none, qg_inl, qg_inr, qg_ite, xr1, xr0, xrE, xri, xl0, xl1, xl2, xl3, xl4, xl5, xl6, xl7, xl8, xl9, xl10, xs0, xs1, xs2, xs3, xs4, xs5, xs6, xs7, xs8, xs9, xs10, xi0, xi1, xi2, xi3, xi4, xi5, xi6, xi7, xi8, xi9, xi10, xc0, xc1, xc2, xc3, xc4, xc5, xc6, xc7, xv1, xv2, xv3, xv4, xv5, xv6, xv7, dT_le, dF_le, dT_lt, dF_lt, dT_eq, dF_eq, qa_up_hit, qa_up_no, k77, k79, k85, r2, r12, hv, m_readerAt, m_ofBranch hK, m_sizeR hK, m_keyR hK, a9, a10, a11, a12, a13, c0, c1, c2, u1, uK, uS, uP]
        exact hze _ _ (by simp [zOwe, c0, c1]) (by simp [zOwe, c0, c2])
