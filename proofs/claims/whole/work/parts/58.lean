def zSetR (A : zA) (r j v : Int) : zA := (A.1, A.2.1, fun r' j' => if r' = r ∧ j' = j then v else A.2.2.1 r' j', A.2.2.2)
theorem zSetR_R (A : zA) (r j v r' j' : Int) : (zSetR A r j v).2.2.1 r' j' = if r' = r ∧ j' = j then v else A.2.2.1 r' j' := rfl
theorem RC_put1 {A : zA} {m : Int → Int → Int} {kd : Int → Nat × Int} {S r j v : Int} (hK : KS kd S) (hC : RC A m kd S) (r1 : 0 ≤ r) (r2 : r < 6) (hj : 0 ≤ j ∧ j ≤ 8) (h0 : j = 0 → v = 0) : RC (zSetR A r j v) (qa_up m (S + 12 + 3 * r) j v) kd S := by
  obtain ⟨⟨f2, f3, f4, fV, fW, f0, f8, f9, f7⟩, e0, e1, eC, eB, eR, eD, eL, eE⟩ := id hC
  obtain ⟨kN, kS, kC, kV, kW, kB, kE, kR, kD, kL⟩ := id hK
  refine RC_rd hK hC (k := r) (R' := (zSetR A r j v).2.2.1) r1 r2 ?_ ?_ ?_ ?_ ?_ ?_ ?_
  · intro c c1 _ _
    funext i
    exact qa_up_no _ (fun z => c1 z.1)
  · rw [qa_up_no _ (by omega)]; exact f9 r r1 r2
  · rw [qa_up_no _ (by omega)]; exact f7 r r1 r2
  · intro r' j' hr
    rw [zSetR_R, if_neg (fun z => hr z.1)]
  · intro j' a b
    rw [zSetR_R]
    by_cases e : j' = j
    · rw [e, qa_up_hit, if_pos ⟨rfl, rfl⟩]
    · rw [qa_up_no _ (fun z => e z.2), if_neg (fun z => e z.2)]
      exact eR r j' r1 r2 a b
  · intro ht j' a b
    rw [zSetR_R] at ht ⊢
    rw [qa_up_no _ (by omega), if_neg (by omega)]
    by_cases e : j = 0
    · rw [if_pos ⟨rfl, e.symm⟩, h0 e] at ht
      exact absurd ht (by decide)
    · rw [if_neg (fun z => e z.2.symm)] at ht
      exact eD r j' r1 r2 ht a b
  · intro ht j' a b
    rw [zSetR_R] at ht ⊢
    rw [qa_up_no _ (by omega), if_neg (by omega)]
    by_cases e : j = 0
    · rw [if_pos ⟨rfl, e.symm⟩, h0 e] at ht
      exact absurd ht (by decide)
    · rw [if_neg (fun z => e z.2.symm)] at ht
      exact eL r j' r1 r2 ht a b
theorem QR_put1 {A : zA} {m : Int → Int → Int} {r j v : Int} (hQ : QR A (m 79)) (r1 : 0 ≤ r) (r2 : r < 6) (hj : 0 ≤ j ∧ j ≤ 8) (h0 : j = 0 → v = 0) : QR (zSetR A r j v) ((qa_up m 79 (34 + 26 * r + j) v) 79) := by
  obtain ⟨g0, g1, gC, gI, gB, gJ, gR, gD, gE⟩ := id hQ
  refine QR_rd hQ (k := r) (R' := (zSetR A r j v).2.2.1) r1 r2 ?_ ?_ ?_ ?_ ?_
  · intro i hi
    exact qa_up_no _ (by omega)
  · intro r' j' hr
    rw [zSetR_R, if_neg (fun z => hr z.1)]
  · rw [zSetR_R]
    by_cases e : j = 0
    · rw [e, Int.add_zero, qa_up_hit, if_pos ⟨rfl, rfl⟩]
    · rw [qa_up_no _ (by omega), if_neg (fun z => e z.2.symm)]
      exact gJ r r1 r2
  · intro ht j' a b
    rw [zSetR_R] at ht ⊢
    by_cases e : j' = j
    · rw [e, qa_up_hit, if_pos ⟨rfl, rfl⟩]
    · rw [qa_up_no _ (by omega), if_neg (fun z => e z.2)]
      by_cases e0 : j = 0
      · rw [if_pos ⟨rfl, e0.symm⟩, h0 e0] at ht
        exact absurd ht (by decide)
      · rw [if_neg (fun z => e0 z.2.symm)] at ht
        exact gR r j' r1 r2 ht a b
  · intro ht h9 j' a b
    rw [zSetR_R] at ht h9 ⊢
    rw [qa_up_no _ (by omega), if_neg (by omega)]
    rw [if_neg (by omega)] at h9
    by_cases e0 : j = 0
    · rw [if_pos ⟨rfl, e0.symm⟩, h0 e0] at ht
      exact absurd ht (by decide)
    · rw [if_neg (fun z => e0 z.2.symm)] at ht
      exact gD r j' r1 r2 ht h9 a b
def cDone (um : Int) (U SV : Int → zA) (A A' : zA) (ans : Int) (m : Int → Int → Int) (kd : Int → Nat × Int) (n c s : Nat) (S : Int) (res : Option qR) : Prop := ∃ m' kd' n' c' s', res = some (.inl (some (0, ans)), (m', kd', n', c', s')) ∧ CS (zpu um) (zpU um U A) SV A' m' kd' (n' : Nat) S ∧ zfx m kd m' kd' ∧ (∀ i, m' 65 i = if i = 0 then m 65 0 + 1 else m 65 i) ∧ (c' : Int) + 30 * znull m' ≤ c + 30 * znull m + 2 ∧ (s' : Int) + 2271 * znull m' ≤ s + 2271 * znull m + 10 ∧ n ≤ n' ∧ c ≤ c' ∧ s ≤ s'
def mDone (um : Int) (U : Int → zA) (A A' : zA) (ans : Int) (m : Int → Int → Int) (kd : Int → Nat × Int) (w : Nat × Nat × Nat) (res : Option qR) : Prop := ∃ m', res = some (.inl (some (0, ans)), (m', kd, w)) ∧ MU (zpu um) (zpU um U A) m' ∧ QR A' (m' 79) ∧ zfk m m' ∧ (∀ i, m' 84 i = if i = 0 then m 84 0 + 1 else m 84 i) ∧ m' 86 = m 86 ∧ m' 77 14 = m 77 14 ∧ ∀ X, X ≤ 50000000 → zcb m X → zcb m' (X + 13000)
theorem zfk_79 {m m' : Int → Int → Int} {i v : Int} (h : zfk m m') : zfk m (qa_up m' 79 i v) := ⟨fun c c1 c2 c3 c4 c5 c6 c7 => by
  funext j
  rw [qa_up_no _ (fun z => c2 z.1), h.1 c c1 c2 c3 c4 c5 c6 c7], fun j j1 j2 j3 j4 j5 => by rw [qa_up_no _ (by omega), h.2 j j1 j2 j3 j4 j5]⟩
theorem MU_79 {um : Int} {U : Int → zA} {m : Int → Int → Int} {i v : Int} (h : MU um U m) : MU um U (qa_up m 79 i v) := by
  obtain ⟨h1, h2, h3, h4⟩ := h
  refine ⟨by rw [qa_up_no _ (by omega)]; exact h1, h2, h3, fun k k1 k2 => ?_⟩
  have := h4 k k1 k2
  have e : (fun j => qa_up m 79 i v 81 (14622 * k + j)) = fun j => m 81 (14622 * k + j) := by
    funext j
    exact qa_up_no _ (by omega)
  rw [e]
  exact this
theorem zcb_same {m m' : Int → Int → Int} {X : Int} (h : zcb m X) (h77 : ∀ i, i = 9 ∨ i = 10 ∨ i = 11 → m' 77 i = m 77 i) (h85 : m' 85 = m 85) : zcb m' (X + 13000) := by
  obtain ⟨x1, x2, x3, x4⟩ := h
  unfold zcb
  rw [h77 9 (by decide), h77 10 (by decide), h77 11 (by decide), h85]
  exact ⟨by omega, by omega, by omega, fun r r1 r2 => by have := x4 r r1 r2; omega⟩
theorem zW_rd {M M' : Int} {A : zA} (hW : zW M A) (hM : M ≤ M' ∧ M' ≤ 500000) {k : Int} {R' : Int → Int → Int} (hR : ∀ r j, r ≠ k → R' r j = A.2.2.1 r j) (h01 : R' k 0 = 0 ∨ R' k 0 = 1) (hr : R' k 0 = 1 → zWr M' (A.1, A.2.1, R', A.2.2.2) k ∧ zWd (A.1, A.2.1, R', A.2.2.2) k) : zW M' (A.1, A.2.1, R', A.2.2.2) := by
  obtain ⟨⟨w0, w1, w2, w3, w4, w5⟩, w6, w7, w8, w9, wB, wE, wR, wD⟩ := id hW
  refine ⟨⟨by omega, by omega, w2, w3, w4, w5⟩, w6, ?_, w8, fun r r1 r2 => ?_, wB, wE, fun r r1 r2 r3 => ?_, fun r r1 r2 r3 => ?_⟩
  · show zgs A + zlive A ≤ M'
    omega
  · show R' r 0 = 0 ∨ R' r 0 = 1
    by_cases e : r = k
    · rw [e]; exact h01
    · rw [hR r 0 e]; exact w9 r r1 r2
  · by_cases e : r = k
    · rw [e] at r3 ⊢; exact (hr r3).1
    · have r3' : R' r 0 = 1 := r3
      rw [hR r 0 e] at r3'
      have := wR r r1 r2 r3'
      unfold zWr at this ⊢
      simp only [hR r _ e]
      obtain ⟨q1, q2, q3, q4, q5, q6, q7, q8, q9, q10, q11, q12, q13, q14, q15⟩ := this
      exact ⟨q1, q2, q3, q4, q5, q6, q7, q8, by omega, q10, q11, q12, by omega, q14, by omega⟩
  · by_cases e : r = k
    · rw [e] at r3 ⊢; exact (hr r3).2
    · have r3' : R' r 0 = 1 := r3
      rw [hR r 0 e] at r3'
      have := wD r r1 r2 r3'
      unfold zWd at this ⊢
      simp only [hR r _ e]
      exact this
theorem zW_mono {M M' : Int} {A : zA} (hW : zW M A) (hM : M ≤ M' ∧ M' ≤ 500000) : zW M' A := by
  have := zW_rd (k := 7) (R' := A.2.2.1) hW hM (fun _ _ _ => rfl)
  obtain ⟨⟨w0, w1, w2, w3, w4, w5⟩, w6, w7, w8, w9, wB, wE, wR, wD⟩ := hW
  refine ⟨⟨by omega, by omega, w2, w3, w4, w5⟩, w6, by omega, w8, w9, wB, wE, fun r r1 r2 r3 => ?_, wD⟩
  have := wR r r1 r2 r3
  unfold zWr at this ⊢
  obtain ⟨q1, q2, q3, q4, q5, q6, q7, q8, q9, q10, q11, q12, q13, q14, q15⟩ := this
  exact ⟨q1, q2, q3, q4, q5, q6, q7, q8, by omega, q10, q11, q12, by omega, q14, by omega⟩
theorem zW_setR {M : Int} {A : zA} (hW : zW M A) {r j v : Int} (hj : 1 ≤ j ∧ j ≤ 8) (hr : A.2.2.1 r 0 = 1 → 0 ≤ r → r < 6 → zWr M (zSetR A r j v) r) : zW M (zSetR A r j v) := by
  have hz : ∀ j', j' ≠ j → (zSetR A r j v).2.2.1 r j' = A.2.2.1 r j' := fun j' h => by rw [zSetR_R, if_neg (fun z => h z.2)]
  obtain ⟨⟨w0, w1, w2, w3, w4, w5⟩, w6, w7, w8, w9, wB, wE, wR, wD⟩ := id hW
  by_cases hrr : 0 ≤ r ∧ r < 6
  · refine zW_rd hW ⟨Int.le_refl _, w1⟩ (k := r) (R' := (zSetR A r j v).2.2.1) (fun r' j' h => by rw [zSetR_R, if_neg (fun z => h z.1)]) ?_ (fun h => ?_)
    · rw [hz 0 (by omega)]; exact w9 r hrr.1 hrr.2
    · rw [hz 0 (by omega)] at h
      refine ⟨hr h hrr.1 hrr.2, ?_⟩
      have := wD r hrr.1 hrr.2 h
      unfold zWd at this ⊢
      show _ ∧ _ ≤ zgs A ∧ _
      simp only [hz 9 (by omega), hz 10 (by omega), hz 11 (by omega), hz 12 (by omega), hz 13 (by omega), hz 14 (by omega), hz 15 (by omega)]
      obtain ⟨d1, d2, d3, d4, d5, d6, d7⟩ := this
      refine ⟨d1, d2, d3, d4, d5, d6, fun h => ?_⟩
      obtain ⟨e1, e2, e3, e4, e5, e6, e7⟩ := d7 h
      exact ⟨e1, e2, e3, e4, e5, e6, fun k k1 k2 => by rw [hz k (by omega)]; exact e7 k k1 k2⟩
  · have hne : ∀ r', 0 ≤ r' → r' < 6 → ∀ j', (zSetR A r j v).2.2.1 r' j' = A.2.2.1 r' j' := fun r' a b j' => by rw [zSetR_R, if_neg (fun z => by omega)]
    refine ⟨⟨w0, w1, w2, w3, w4, w5⟩, w6, w7, w8, fun r' a b => ?_, wB, wE, fun r' a b d => ?_, fun r' a b d => ?_⟩
    · rw [hne r' a b]; exact w9 r' a b
    · rw [hne r' a b] at d
      have := wR r' a b d
      unfold zWr at this ⊢
      simp only [hne r' a b]
      exact this
    · rw [hne r' a b] at d
      have := wD r' a b d
      unfold zWd at this ⊢
      simp only [hne r' a b]
      exact this
theorem zW_leave {M : Int} {A : zA} (hW : zW M A) {r : Int} : zW M (zSetR A r 0 0) := by
  obtain ⟨⟨w0, w1, w2, w3, w4, w5⟩, w6, w7, w8, w9, wB, wE, wR, wD⟩ := id hW
  refine zW_rd hW ⟨Int.le_refl _, w1⟩ (k := r) (R' := (zSetR A r 0 0).2.2.1) (fun r' j' h => by rw [zSetR_R, if_neg (fun z => h z.1)]) (Or.inl ?_) (fun h => ?_)
  · rw [zSetR_R, if_pos ⟨rfl, rfl⟩]
  · rw [zSetR_R, if_pos ⟨rfl, rfl⟩] at h
    exact absurd h (by decide)
theorem ca_leave {m : Int → Int → Int} {kd : Int → Nat × Int} {n c s : Nat} {um S : Int} {U SV : Int → zA} {A : zA} {M : Int} (hS : CS um U SV A m kd n S) (hW : zW M A) (ha : 0 ≤ m 65 0 ∧ m 65 0 < 100000000) {r : Int} (hr : zRl A r) : cDone um U SV A (zSetR A r 0 0) (zsum (fun x => if (zSetR A r 0 0).2.2.1 x 0 = 1 then 1 else 0) 6) m kd n c s S (f_X11_leave [(1, 0), (0, r)] (m, kd, n, c, s)) := by
  obtain ⟨hK, hC, hx, hn, h4, k64, -⟩ := hS.f
  have ne := c_needReader (w := (n, c, s)) hK hC hW hx hn r
  rw [if_pos hr] at ne
  obtain ⟨m1, kd1, n1, c1, s1, i1, i2, i3, i4, i5, i6, i7, i8, i9⟩ := c_begS (c := c) (s := s) hS hW ha
  obtain ⟨hK1, hC1, hx1, hn1, h41, k641, -⟩ := i2.f
  obtain ⟨q1, q2, q3⟩ := id hr
  have hC2 := RC_put1 (r := r) (j := 0) (v := 0) hK1 hC1 q1 q2 (by decide) (fun _ => rfl)
  have hfr : zfr m1 (qa_up m1 (S + 12 + 3 * r) 0 0) S := fun x hx => by
    funext i
    exact qa_up_no _ (by omega)
  obtain ⟨g1, g2, g3, g4⟩ := CS_now i2 hfr hC2
  have hk1 := hK1.2.2.2.2.2.2.2.1 r q1 q2
  obtain ⟨hK2, hC2', hx2, hn2, -⟩ := g1.f
  have rc := c_readerCount (w := (n1, c1, s1)) hK2 hC2' (zW_leave (r := r) hW)
  have kS := hK1.2.1
  refine ⟨_, kd1, n1, c1, s1, ?_, g1, i3.trans g2, fun i => by rw [g3]; exact i4 i, by rw [g4]; omega, by rw [g4]; omega, i7, i8, i9⟩
  unfold f_X11_leave
  refine qa_fn_eq ?_ (by simp; exact ⟨i7, i8, i9⟩)
  simp (disch := omega) [ev_X11_leave_0, B_X11_leave_0, x_const, x_iadd, x_isub, x_imul, x_idiv, x_irem, x_ineg, x_dup, x_dup_x1, x_dup2, x_pop, x_goto, x_ifeq, x_ifne, x_iflt, x_ifge, x_ifgt, x_ifle, x_cmpeq, x_cmpne, x_cmplt, x_cmpge, x_cmpgt, x_cmple, x_null, x_nonnull, x_acmpeq, x_acmpne, x_get, x_put, x_putz, x_ald, x_ast, x_bast, x_zast, x_aast, x_alen, x_obj, x_ret, x_retz, x_vret, x_max, x_min, x_copy, x_i2l, qg_none, qg_inl, qg_inr, qg_ite, xr1, xr0, xrE, xri, xl0, xl1, xl2, xl3, xl4, xl5, xl6, xl7, xl8, xl9, xl10, xs0, xs1, xs2, xs3, xs4, xs5, xs6, xs7, xs8, xs9, xs10, xi0, xi1, xi2, xi3, xi4, xi5, xi6, xi7, xi8, xi9, xi10, xc0, xc1, xc2, xc3, xc4, xc5, xc6, xc7, xv1, xv2, xv3, xv4, xv5, xv6, xv7, dT_le, dF_le, dT_lt, dF_lt, hx, hn, h4, k64, hx1, hn1, ne, i1, hk1, kS, hx2, hn2, rc]
theorem ma_leave {m : Int → Int → Int} {kd : Int → Nat × Int} {w : Nat × Nat × Nat} {A : zA} (hK : KM kd) (hR : RM m) (hQ : QR A (m 79)) {M : Int} (hW : zW M A) {um : Int} {U : Int → zA} (hU : MU um U m) (hUW : ∀ k, 0 ≤ k → k < um → zW M (U k)) (ha : 0 ≤ m 84 0 ∧ m 84 0 < 100000000) {r : Int} (hr : zRl A r) : mDone um U A (zSetR A r 0 0) (zsum (fun x => if (zSetR A r 0 0).2.2.1 x 0 = 1 then 1 else 0) 6) m kd w (f_X12_leaves [(1, 77), (0, r)] (m, kd, w)) := by
  obtain ⟨m1, i1, i2, i3, i4, i5, i6, i7, i8⟩ := m_keeps (w := w) hK hR hQ hW hU hUW ha
  have hR1 := zfk_RM i3 hR
  obtain ⟨q1, q2, q3⟩ := id hr
  have hQ1 : QR A (m1 79) := by rw [i4]; exact hQ
  have hQ2 := QR_put1 (r := r) (j := 0) (v := 0) hQ1 q1 q2 (by decide) (fun _ => rfl)
  have hR2 : RM (qa_up m1 79 (34 + 26 * r + 0) 0) := by rw [RM_u]; exact hR1
  have rc := m_readerMany (w := w) hK hR2 hQ2
  obtain ⟨k77, k78, k79, k80, k81, k82, k83, k84, k85, k86, k87, k88, k89, k90⟩ := id hK
  obtain ⟨r1, r2, r3, r4, r6, r7, r8, r12, r13, r15, r23, r25, r26⟩ := id hR1
  rw [Int.add_zero] at rc hQ2
  refine ⟨qa_up m1 79 (34 + 26 * r) 0, ?_, MU_79 i2, hQ2, zfk_79 i3, fun i => by rw [qa_up_no _ (by omega)]; exact i8 i, ?_, by rw [qa_up_no _ (by omega)]; exact i7 14 (by decide), fun X _ hX => zcb_same hX (fun i hi => by rw [qa_up_no _ (by omega)]; exact i7 i (by omega)) ?_⟩
  · unfold f_X12_leaves
    refine qa_fn_eq ?_ (by simp)
    simp (disch := omega) [ev_X12_leaves_0, B_X12_leaves_0, x_const, x_iadd, x_isub, x_imul, x_idiv, x_irem, x_ineg, x_dup, x_dup_x1, x_dup2, x_pop, x_goto, x_ifeq, x_ifne, x_iflt, x_ifge, x_ifgt, x_ifle, x_cmpeq, x_cmpne, x_cmplt, x_cmpge, x_cmpgt, x_cmple, x_null, x_nonnull, x_acmpeq, x_acmpne, x_get, x_put, x_putz, x_ald, x_ast, x_bast, x_zast, x_aast, x_alen, x_obj, x_ret, x_retz, x_vret, x_max, x_min, x_copy, x_i2l, qg_none, qg_inl, qg_inr, qg_ite, xr1, xr0, xrE, xri, xl0, xl1, xl2, xl3, xl4, xl5, xl6, xl7, xl8, xl9, xl10, xs0, xs1, xs2, xs3, xs4, xs5, xs6, xs7, xs8, xs9, xs10, xi0, xi1, xi2, xi3, xi4, xi5, xi6, xi7, xi8, xi9, xi10, xc0, xc1, xc2, xc3, xc4, xc5, xc6, xc7, xv1, xv2, xv3, xv4, xv5, xv6, xv7, dT_le, dF_le, dT_lt, dF_lt, k77, k79, r2, i1, m_readerAt, rc]
  · rw [← i6]
    funext i
    exact qa_up_no _ (by omega)
  · rw [← i5]
    funext i
    exact qa_up_no _ (by omega)
