def mRead (um : Int) (U : Int → zA) (A : zA) (r it : Int) (m : Int → Int → Int) (kd : Int → Nat × Int) (w : Nat × Nat × Nat) (res : Option qR) : Prop := ∃ m', res = some (.inl (some (0, zTk A r it + zHas A r)), (m', kd, w)) ∧ MU (zpu um) (zpU um U A) m' ∧ QR (zRead A r it) (m' 79) ∧ zfk m m' ∧ (∀ i, m' 84 i = if i = 0 then m 84 0 + 1 else m 84 i) ∧ (∀ X, X ≤ 50000000 → zcb m X → zcb m' (X + 13000)) ∧ QD (zHas A r) (A.2.2.1 r 2) (zTk A r it) (fun j => A.2.2.1 r (9 + j)) (fun i j => A.2.2.2 (A.2.2.1 r 1) (A.2.2.1 r 2 + i) j) m'
theorem MU_x {um : Int} {U : Int → zA} {m m' : Int → Int → Int} (h : MU um U m) (h5 : m' 77 5 = m 77 5) (h81 : m' 81 = m 81) : MU um U m' := by
  unfold MU at h ⊢
  rw [h5, h81]
  exact h
theorem m_rdX {kd : Int → Nat × Int} {w : Nat × Nat × Nat} {A : zA} {M um : Int} {U : Int → zA} {m m1 m4 : Int → Int → Int} (hK : KM kd) (hR1 : RM m1) (hW : zW M A) (hM : M + 100 ≤ 500000) {r it x : Int} (hr : zRl A r) (hi : 1 ≤ it ∧ it ≤ 99) (i2 : MU (zpu um) (zpU um U A) m1) (i3 : zfk m m1) (i5 : m1 85 = m 85) (i7 : ∀ i, i ≠ 5 → m1 77 i = m 77 i) (i8 : ∀ i, m1 84 i = if i = 0 then m 84 0 + 1 else m 84 i) (hQ4 : QR (zRg A r 0) (m4 79)) (hD4 : QD (zHas A r) (A.2.2.1 r 2) 0 (fun j => A.2.2.1 r (9 + j)) (fun i j => A.2.2.2 (A.2.2.1 r 1) (A.2.2.1 r 2 + i) j) m4) (o4 : ∀ c, c ≠ 77 → c ≠ 79 → c ≠ 86 → m4 c = m1 c) (p4 : ∀ i, i ≠ 14 → m4 77 i = m1 77 i) : mRead um U A r it m kd w (qa_ev P_X12_reads 4 [(1, 77), (0, r), (0, it), (0, 34 + 26 * r), (0, x)] [] (m4, kd, w)) := by
  have htk := zTk_b hW hr hi
  obtain ⟨r1, r2, r3⟩ := id hr
  have hR4 : RM m4 := RM_7 p4 hR1
  obtain ⟨m5, g1, g2, g3, g4, g5⟩ := m_rdL (w := w) (x := x) hK hW hM hr hi (zTk A r it).toNat 0 m4 (by decide) (by omega) hR4 hQ4 hD4
  have hR5 : RM m5 := RM_7 g5 hR4
  have e0 : (zRg A r (zTk A r it)).2.2.1 r 0 = 1 := by rw [zRg_lo A (by decide) (by decide)]; exact r3
  have x4 : m5 79 (34 + 26 * r + 4) = A.2.2.1 r 4 := (g2.2.2.2.2.2.2.1 r 4 r1 r2 e0 (by decide) (by decide)).trans (zRg_lo A (by decide) (by decide))
  have x5 : m5 79 (34 + 26 * r + 5) = A.2.2.1 r 5 := (g2.2.2.2.2.2.2.1 r 5 r1 r2 e0 (by decide) (by decide)).trans (zRg_lo A (by decide) (by decide))
  have hrn := hW.rn hr
  have F := m_rdF (w := w) (it := it) (x := x) (t := A.1 0) hK.1 hK.2.2.1 r1 r2 hR5.2.1 g3.1 g2.1 x4 x5 (by omega)
  generalize hm6 : qa_up (qa_up (qa_up m5 79 (34 + 26 * r + 3) (A.1 0)) 79 (34 + 26 * r + 5) (A.2.2.1 r 5 + (if A.2.2.1 r 4 = -1 then 0 else 1))) 79 (34 + 26 * r + 4) (-1) = m6 at F
  have o6 : ∀ c, c ≠ 79 → m6 c = m5 c := fun c hc => by
    rw [← hm6]
    funext i
    rw [qa_up_no _ (fun z => hc z.1), qa_up_no _ (fun z => hc z.1), qa_up_no _ (fun z => hc z.1)]
  have q6 : ∀ i, i ≠ 34 + 26 * r + 3 → i ≠ 34 + 26 * r + 4 → i ≠ 34 + 26 * r + 5 → m6 79 i = m5 79 i := fun i a b c => by
    rw [← hm6, qa_up_no _ (fun z => b z.2), qa_up_no _ (fun z => c z.2), qa_up_no _ (fun z => a z.2)]
  have o : ∀ c, c ≠ 77 → c ≠ 79 → c ≠ 86 → m6 c = m1 c := fun c c1 c2 c3 => by rw [o6 c c2, g4 c c1 c2 c3, o4 c c1 c2 c3]
  have p : ∀ i, i ≠ 14 → m6 77 i = m1 77 i := fun i hi => by rw [o6 77 (by decide), g5 i hi, p4 i hi]
  refine ⟨m6, ?_, MU_x i2 (p 5 (by decide)) (o 81 (by decide) (by decide) (by decide)), ?_, i3.trans ⟨fun c c1 c2 _ _ _ _ c7 => o c c1 c2 c7, fun i _ _ _ _ h14 => p i h14⟩, fun i => by rw [o 84 (by decide) (by decide) (by decide)]; exact i8 i, fun X _ hX => zcb_same hX (fun i hi => by rw [p i (by omega)]; exact i7 i (by omega)) (by rw [o 85 (by decide) (by decide) (by decide)]; exact i5), QD_same g3 (o6 86 (by decide)) (by rw [o6 77 (by decide)])⟩
  · rw [g1, F, Int.add_comm]
  · refine QR_rd g2 (k := r) (R' := (zRead A r it).2.2.1) r1 r2 (fun i hi => q6 i (by omega) (by omega) (by omega)) (fun r' j h => by rw [zRead_o A j h, zRg_o A j h]) ?_ (fun _ j j1 j2 => ?_) (fun _ z => absurd ?_ z)
    · rw [q6 _ (by omega) (by omega) (by omega)]
      have := g2.2.2.2.2.2.1 r r1 r2
      have ez : (zRead A r it).2.2.1 r 0 = A.2.2.1 r 0 := by rw [zRead_r]; rfl
      rw [this, e0, ez]
      exact r3.symm
    · rw [zRead_r]
      by_cases j3 : j = 3
      · subst j3
        rw [← hm6, qa_up_no _ (by omega), qa_up_no _ (by omega), qa_up_hit]
        rfl
      · by_cases j4 : j = 4
        · subst j4
          rw [← hm6, qa_up_hit]
          rfl
        · by_cases j5 : j = 5
          · subst j5
            rw [← hm6, qa_up_no _ (by omega), qa_up_hit]
            rfl
          · rw [q6 _ (by omega) (by omega) (by omega), g2.2.2.2.2.2.2.1 r j r1 r2 e0 j1 j2, zRg_r, if_neg j3, if_neg j4, if_neg j5]
    · rw [zRead_hi A (by decide)]; rfl
theorem ma_read {m : Int → Int → Int} {kd : Int → Nat × Int} {w : Nat × Nat × Nat} {A : zA} (hK : KM kd) (hR : RM m) (hQ : QR A (m 79)) {M : Int} (hW : zW M A) {um : Int} {U : Int → zA} (hU : MU um U m) (hUW : ∀ k, 0 ≤ k → k < um → zW M (U k)) (ha : ∀ i, 0 ≤ i → i ≤ 10 → 0 ≤ m 84 i ∧ m 84 i < 100000000) (hM : M + 100 ≤ 500000) {r it : Int} (hr : zRl A r) (hi : 1 ≤ it ∧ it ≤ 99) : ((A.2.2.1 r 9 = 0 ∧ A.2.1 (A.2.2.1 r 1) 5 ≤ A.2.2.1 r 2) → mRef 10 m kd w (f_X12_reads [(1, 77), (0, r), (0, it)] (m, kd, w))) ∧ (¬ (A.2.2.1 r 9 = 0 ∧ A.2.1 (A.2.2.1 r 1) 5 ≤ A.2.2.1 r 2) → mRead um U A r it m kd w (f_X12_reads [(1, 77), (0, r), (0, it)] (m, kd, w))) := by
  obtain ⟨r1, r2, r3⟩ := id hr
  have hwr := hW.2.2.2.2.2.2.2.1 r r1 r2 r3
  unfold zWr at hwr
  have hwd := hW.2.2.2.2.2.2.2.2 r r1 r2 r3
  unfold zWd at hwd
  have hbn := hW.bn hwr.1
  have hrn := hW.rn hr
  have rf := m_refuses (w := w) (r := 10) hK hR (by decide) (ha 10 (by decide) (by decide))
  have eo := m_endOf (w := w) (b := A.2.2.1 r 1) hK hR hQ hwr.1 ⟨hbn.1, hbn.2.1, hbn.2.2.1⟩
  have e9 : m 79 (34 + 26 * r + 9) = A.2.2.1 r 9 := hQ.2.2.2.2.2.2.1 r 9 r1 r2 r3 (by decide) (by decide)
  have e2 : m 79 (34 + 26 * r + 2) = A.2.2.1 r 2 := hQ.2.2.2.2.2.2.1 r 2 r1 r2 r3 (by decide) (by decide)
  have e1 : m 79 (34 + 26 * r + 1) = A.2.2.1 r 1 := hQ.2.2.2.2.2.2.1 r 1 r1 r2 r3 (by decide) (by decide)
  have k77 := hK.1
  have k79 := hK.2.2.1
  have z2 : m 77 2 = 79 := hR.2.1
  refine ⟨fun h => ⟨by decide, by decide, ?_⟩, fun h => ?_⟩
  · have e2' : m 79 (34 + 26 * r + 2) = A.2.1 (A.2.2.1 r 1) 5 := by omega
    unfold f_X12_reads
    refine qa_fn_eq ?_ (by simp)
    simp (disch := omega) [ev_X12_reads_0, ev_X12_reads_1, ev_X12_reads_2, ev_X12_reads_3, ev_X12_reads_5, ev_X12_reads_6, ev_X12_reads_7, ev_X12_reads_8, B_X12_reads_0, B_X12_reads_1, B_X12_reads_2, B_X12_reads_3, B_X12_reads_4, B_X12_reads_5, B_X12_reads_6, B_X12_reads_7, B_X12_reads_8, x_const, x_iadd, x_isub, x_imul, x_idiv, x_irem, x_ineg, x_dup, x_dup_x1, x_dup2, x_pop, x_goto, x_ifeq, x_ifne, x_iflt, x_ifge, x_ifgt, x_ifle, x_cmpeq, x_cmpne, x_cmplt, x_cmpge, x_cmpgt, x_cmple, x_null, x_nonnull, x_acmpeq, x_acmpne, x_get, x_put, x_putz, x_ald, x_ast, x_bast, x_zast, x_aast, x_alen, x_obj, x_ret, x_retz, x_vret, x_max, x_min, x_copy, x_i2l, qg_none, qg_inl, qg_inr, qg_ite, xr1, xr0, xrE, xri, xl0, xl1, xl2, xl3, xl4, xl5, xl6, xl7, xl8, xl9, xl10, xs0, xs1, xs2, xs3, xs4, xs5, xs6, xs7, xs8, xs9, xs10, xi0, xi1, xi2, xi3, xi4, xi5, xi6, xi7, xi8, xi9, xi10, xc0, xc1, xc2, xc3, xc4, xc5, xc6, xc7, xv1, xv2, xv3, xv4, xv5, xv6, xv7, dT_le, dF_le, dT_lt, dF_lt, k77, k79, z2, m_readerAt, e9, h.1, e2', e1, eo, rf]
  · obtain ⟨m1, i1, i2, i3, i4, i5, i6, i7, i8⟩ := m_keeps (w := w) hK hR hQ hW hU hUW (ha 0 (by decide) (by decide))
    have hR1 := zfk_RM i3 hR
    generalize hm2 : qa_up m1 77 14 0 = m2
    have o2 : ∀ c i, (c ≠ 77 ∨ i ≠ 14) → m2 c i = m1 c i := fun c i hc => by rw [← hm2, qa_up_no _ (by omega)]
    have hR2 : RM m2 := RM_7 (fun i hi => o2 77 i (Or.inr hi)) hR1
    have h14 : m2 77 14 = 0 := by rw [← hm2, qa_up_hit]
    have o79 : m2 79 = m 79 := by rw [← i4]; funext i; exact o2 79 i (Or.inl (by decide))
    by_cases h9 : 0 < A.2.2.1 r 9
    · have hh : zHas A r = 1 := if_pos h9
      have dd := m_deliversDebt (w := w) hK hR2 ⟨r1, r2⟩ h14
      generalize hm3 : qa_up (zdl (qa_up m2 86 0 1) (34 + 26 * r + 9) 7) 77 14 1 = m3 at dd
      have o3 : ∀ c i, c ≠ 86 → (c ≠ 77 ∨ i ≠ 14) → m3 c i = m2 c i := fun c i c1 hc => by
        rw [← hm3, qa_up_no _ (by omega), zdl_no (Or.inl c1), qa_up_no _ (fun z => c1 z.1)]
      have hR3 : RM m3 := RM_7 (fun i hi => o3 77 i (by decide) (Or.inr hi)) hR2
      have cd := m_clearsDebt (w := w) hK hR3 ⟨r1, r2⟩
      generalize hm4 : zfl m3 (34 + 26 * r + 9) 17 0 = m4 at cd
      have o4 : ∀ c i, (c ≠ 79 ∨ i < 34 + 26 * r + 9 ∨ 34 + 26 * r + 26 ≤ i) → m4 c i = m3 c i := fun c i hc => by
        rw [← hm4, zfl_no (by omega)]
      have z4 : ∀ i, 34 + 26 * r + 9 ≤ i → i < 34 + 26 * r + 26 → m4 79 i = 0 := fun i a b => by
        rw [← hm4]
        exact if_pos ⟨rfl, a, by omega⟩
      have e8 : m4 79 (34 + 26 * r + 8) = A.2.2.1 r 8 := by
        rw [o4 _ _ (by omega), o3 _ _ (by decide) (Or.inl (by decide)), o79]
        exact hQ.2.2.2.2.2.2.1 r 8 r1 r2 r3 (by decide) (by decide)
      have z42 : m4 77 2 = 79 := by rw [o4 _ _ (by omega), o3 _ _ (by decide) (Or.inr (by decide))]; exact hR2.2.1
      generalize hm5 : qa_up m4 79 (34 + 26 * r + 8) (A.2.2.1 r 8 + 1) = m5
      have o5 : ∀ c i, (c ≠ 79 ∨ i ≠ 34 + 26 * r + 8) → m5 c i = m4 c i := fun c i hc => by
        rw [← hm5, qa_up_no _ (by omega)]
      have hQ5 : QR (zRg A r 0) (m5 79) := by
        have hQ' : QR A (m2 79) := by rw [o79]; exact hQ
        refine QR_rd hQ' (k := r) (R' := (zRg A r 0).2.2.1) r1 r2 (fun i hi => by rw [o5 _ _ (by omega), o4 _ _ (by omega), o3 _ _ (by decide) (Or.inl (by decide))]) (fun r' j h => zRg_o A j h) ?_ (fun _ j j1 j2 => ?_) (fun _ z => absurd ?_ z)
        · rw [o5 _ _ (by omega), o4 _ _ (by omega), o3 _ _ (by decide) (Or.inl (by decide)), zRg_lo A (by decide) (by decide)]
          exact hQ'.2.2.2.2.2.1 r r1 r2
        · by_cases j9 : 9 ≤ j
          · rw [o5 _ _ (by omega), z4 _ (by omega) (by omega), zRg_hi A j9]
            have : j = 9 ∨ j = 10 ∨ j = 11 := by omega
            rcases this with rfl | rfl | rfl <;> rfl
          · by_cases j8 : j = 8
            · subst j8
              rw [← hm5, qa_up_hit, zRg_r, if_neg (by decide), if_neg (by decide), if_pos rfl, hh]
            · rw [o5 _ _ (by omega), o4 _ _ (by omega), o3 _ _ (by decide) (Or.inl (by decide)), hQ'.2.2.2.2.2.2.1 r j r1 r2 r3 j1 j2, zRg_r, Int.add_zero, Int.add_zero, if_neg j8, if_neg j9]
              split
              · rename_i h; rw [h]
              · split
                · rename_i h; rw [h]
                · rfl
        · rw [zRg_hi A (by decide)]; rfl
      have o86 : m5 86 = m3 86 := by funext i; rw [o5 _ _ (by omega), o4 _ _ (by omega)]
      have hD5 : QD (zHas A r) (A.2.2.1 r 2) 0 (fun j => A.2.2.1 r (9 + j)) (fun i j => A.2.2.2 (A.2.2.1 r 1) (A.2.2.1 r 2 + i) j) m5 := by
        refine ⟨?_, fun _ => ⟨?_, fun j j1 j2 => ?_⟩, fun i a b => by omega⟩
        · rw [o5 _ _ (by omega), o4 _ _ (by omega), ← hm3, qa_up_hit, hh]; rfl
        · rw [o86, ← hm3, qa_up_no _ (by omega), zdl_no (by omega), qa_up_hit]
        · rw [o86, ← hm3, qa_up_no _ (by omega), zdl_y ⟨j1, by omega⟩, qa_up_no _ (by omega), o79]
          show _ = A.2.2.1 r (9 + j)
          rw [Int.add_assoc]
          by_cases j12 : j ≤ 2
          · exact hQ.2.2.2.2.2.2.1 r (9 + j) r1 r2 r3 (by omega) (by omega)
          · exact hQ.2.2.2.2.2.2.2.1 r (9 + j) r1 r2 r3 (by omega) (by omega) (by omega)
      obtain ⟨m6, hres, rest⟩ := m_rdX (m := m) (m1 := m1) (m4 := m5) (w := w) (x := 1) hK hR1 hW hM hr hi i2 i3 i5 i7 i8 hQ5 hD5 (fun c c1 c2 c3 => by
        funext i
        rw [o5 _ _ (Or.inl c2), o4 _ _ (Or.inl c2), o3 _ _ c3 (Or.inl c1), o2 _ _ (Or.inl c1)]) (fun i hi => by rw [o5 _ _ (Or.inl (by decide)), o4 _ _ (Or.inl (by decide)), o3 _ _ (by decide) (Or.inr hi), o2 _ _ (Or.inr hi)])
      refine ⟨m6, ?_, rest⟩
      unfold f_X12_reads
      refine qa_fn_eq ?_ (by simp)
      simp (disch := omega) [ev_X12_reads_0, ev_X12_reads_1, ev_X12_reads_2, ev_X12_reads_3, ev_X12_reads_5, ev_X12_reads_6, ev_X12_reads_7, ev_X12_reads_8, B_X12_reads_0, B_X12_reads_1, B_X12_reads_2, B_X12_reads_3, B_X12_reads_4, B_X12_reads_5, B_X12_reads_6, B_X12_reads_7, B_X12_reads_8, x_const, x_iadd, x_isub, x_imul, x_idiv, x_irem, x_ineg, x_dup, x_dup_x1, x_dup2, x_pop, x_goto, x_ifeq, x_ifne, x_iflt, x_ifge, x_ifgt, x_ifle, x_cmpeq, x_cmpne, x_cmplt, x_cmpge, x_cmpgt, x_cmple, x_null, x_nonnull, x_acmpeq, x_acmpne, x_get, x_put, x_putz, x_ald, x_ast, x_bast, x_zast, x_aast, x_alen, x_obj, x_ret, x_retz, x_vret, x_max, x_min, x_copy, x_i2l, qg_none, qg_inl, qg_inr, qg_ite, xr1, xr0, xrE, xri, xl0, xl1, xl2, xl3, xl4, xl5, xl6, xl7, xl8, xl9, xl10, xs0, xs1, xs2, xs3, xs4, xs5, xs6, xs7, xs8, xs9, xs10, xi0, xi1, xi2, xi3, xi4, xi5, xi6, xi7, xi8, xi9, xi10, xc0, xc1, xc2, xc3, xc4, xc5, xc6, xc7, xv1, xv2, xv3, xv4, xv5, xv6, xv7, dT_le, dF_le, dT_lt, dF_lt, k77, k79, z2, m_readerAt, e9, i1, hm2, dd, cd, z42, e8, hm5, hres]
    · have hh : zHas A r = 0 := if_neg h9
      have h90 : A.2.2.1 r 9 = 0 := by omega
      have hne : ¬ A.2.2.1 r 2 = A.2.1 (A.2.2.1 r 1) 5 := fun z => h ⟨h90, by omega⟩
      have hQ5 : QR (zRg A r 0) (m2 79) := by
        have hQ' : QR A (m2 79) := by rw [o79]; exact hQ
        obtain ⟨y10, y11, -⟩ := hwd.2.2.2.2.2.2 h90
        refine QR_rd hQ' (k := r) (R' := (zRg A r 0).2.2.1) r1 r2 (fun i hi => rfl) (fun r' j h => zRg_o A j h) ?_ (fun _ j j1 j2 => ?_) (fun _ z => absurd ?_ z)
        · rw [zRg_lo A (by decide) (by decide)]
          exact hQ'.2.2.2.2.2.1 r r1 r2
        · rw [hQ'.2.2.2.2.2.2.1 r j r1 r2 r3 j1 j2]
          have : j = 1 ∨ j = 2 ∨ j = 3 ∨ j = 4 ∨ j = 5 ∨ j = 6 ∨ j = 7 ∨ j = 8 ∨ j = 9 ∨ j = 10 ∨ j = 11 := by omega
          rcases this with rfl | rfl | rfl | rfl | rfl | rfl | rfl | rfl | rfl | rfl | rfl
          · exact (zRg_lo A (by decide) (by decide)).symm
          · rw [zRg_2, Int.add_zero]
          · exact (zRg_lo A (by decide) (by decide)).symm
          · exact (zRg_lo A (by decide) (by decide)).symm
          · exact (zRg_lo A (by decide) (by decide)).symm
          · exact (zRg_lo A (by decide) (by decide)).symm
          · rw [zRg_7, Int.add_zero]
          · rw [zRg_r, if_neg (by decide), if_neg (by decide), if_pos rfl, hh, Int.add_zero]
          · rw [zRg_hi A (by decide), h90]; rfl
          · rw [zRg_hi A (by decide), y10]; rfl
          · rw [zRg_hi A (by decide), y11]; rfl
        · rw [zRg_hi A (by decide)]; rfl
      have hD5 : QD (zHas A r) (A.2.2.1 r 2) 0 (fun j => A.2.2.1 r (9 + j)) (fun i j => A.2.2.2 (A.2.2.1 r 1) (A.2.2.1 r 2 + i) j) m2 := ⟨by rw [h14, hh]; rfl, fun z => by omega, fun i a b => by omega⟩
      obtain ⟨m6, hres, rest⟩ := m_rdX (m := m) (m1 := m1) (m4 := m2) (w := w) (x := 0) hK hR1 hW hM hr hi i2 i3 i5 i7 i8 hQ5 hD5 (fun c c1 c2 c3 => by
        funext i
        rw [o2 _ _ (Or.inl c1)]) (fun i hi => by rw [o2 _ _ (Or.inr hi)])
      refine ⟨m6, ?_, rest⟩
      unfold f_X12_reads
      refine qa_fn_eq ?_ (by simp)
      simp (disch := omega) [ev_X12_reads_0, ev_X12_reads_1, ev_X12_reads_2, ev_X12_reads_3, ev_X12_reads_5, ev_X12_reads_6, ev_X12_reads_7, ev_X12_reads_8, B_X12_reads_0, B_X12_reads_1, B_X12_reads_2, B_X12_reads_3, B_X12_reads_4, B_X12_reads_5, B_X12_reads_6, B_X12_reads_7, B_X12_reads_8, x_const, x_iadd, x_isub, x_imul, x_idiv, x_irem, x_ineg, x_dup, x_dup_x1, x_dup2, x_pop, x_goto, x_ifeq, x_ifne, x_iflt, x_ifge, x_ifgt, x_ifle, x_cmpeq, x_cmpne, x_cmplt, x_cmpge, x_cmpgt, x_cmple, x_null, x_nonnull, x_acmpeq, x_acmpne, x_get, x_put, x_putz, x_ald, x_ast, x_bast, x_zast, x_aast, x_alen, x_obj, x_ret, x_retz, x_vret, x_max, x_min, x_copy, x_i2l, qg_none, qg_inl, qg_inr, qg_ite, xr1, xr0, xrE, xri, xl0, xl1, xl2, xl3, xl4, xl5, xl6, xl7, xl8, xl9, xl10, xs0, xs1, xs2, xs3, xs4, xs5, xs6, xs7, xs8, xs9, xs10, xi0, xi1, xi2, xi3, xi4, xi5, xi6, xi7, xi8, xi9, xi10, xc0, xc1, xc2, xc3, xc4, xc5, xc6, xc7, xv1, xv2, xv3, xv4, xv5, xv6, xv7, dT_le, dF_le, dT_lt, dF_lt, dF_eq, k77, k79, z2, m_readerAt, e9, h90, e2, e1, eo, hne, i1, hm2, hres]
