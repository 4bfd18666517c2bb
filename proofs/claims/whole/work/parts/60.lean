def zSeat (b p t j : Int) : Int := if j = 0 then 1 else if j = 1 then b else if j = 2 then p else if j = 3 then t else if j = 4 then -1 else if j ≤ 11 then 0 else if j = 14 ∨ j = 15 then -1 else -1000
def zJoin (A : zA) (r b p : Int) : zA := (A.1, A.2.1, fun r' j => if r' = r then zSeat b p (A.1 0) j else A.2.2.1 r' j, A.2.2.2)
theorem zJoin_r (A : zA) (r b p j : Int) : (zJoin A r b p).2.2.1 r j = zSeat b p (A.1 0) j := if_pos rfl
theorem zJoin_n (A : zA) {r b p r' j : Int} (h : r' ≠ r) : (zJoin A r b p).2.2.1 r' j = A.2.2.1 r' j := if_neg h
theorem c_clear {m : Int → Int → Int} {kd : Int → Nat × Int} {w : Nat × Nat × Nat} {D L : Int} (h1 : kd D = (7, 0)) (h2 : m D 7 = L) (h3 : kd L = (101, 10)) : ∃ m', f_X3_clear [(1, D)] (m, kd, w) = some (.inl none, (m', kd, w)) ∧ (∀ x, x ≠ D → x ≠ L → m' x = m x) ∧ m' D 7 = L ∧ (∀ j, 0 ≤ j → j ≤ 6 → m' D j = if j = 3 ∨ j = 4 then -1000 else if j = 5 ∨ j = 6 then -1 else 0) ∧ ∀ j, 0 ≤ j → j < 10 → m' L j = -1000 := by
  have hne : ¬ L = D := fun z => by rw [z, h1] at h3; cases h3
  have hne' : ¬ D = L := fun z => hne z.symm
  generalize hm1 : qa_up (qa_up (qa_up (qa_up (qa_up (qa_up (qa_up m D 0 0) D 1 0) D 2 0) D 3 (-1000)) D 4 (-1000)) D 5 (-1)) D 6 (-1) = m1
  have t7 : m1 D 7 = L := by rw [← hm1]; simp (disch := omega) only [qa_up_no]; exact h2
  have loop : ∀ (q : Nat) (k : Int), 0 ≤ k → k + q = 10 → qa_ev P_X3_clear 1 [(1, D), (0, k)] [] (zfd m1 L k (-1000), kd, w) = some (.inl none, (zfd m1 L 10 (-1000), kd, w)) := by
    intro q
    induction q with
    | zero =>
      intro k h1' h2
      obtain rfl : k = 10 := by omega
      have t8 : zfd m1 L 10 (-1000) D 7 = L := by rw [zfd_no (Or.inl hne')]; exact t7
      rw [ev_X3_clear_1]
      simp (disch := omega) [ev_X3_clear_0, ev_X3_clear_2, B_X3_clear_0, B_X3_clear_1, B_X3_clear_2, x_const, x_iadd, x_isub, x_imul, x_idiv, x_irem, x_ineg, x_dup, x_dup_x1, x_dup2, x_pop, x_goto, x_ifeq, x_ifne, x_iflt, x_ifge, x_ifgt, x_ifle, x_cmpeq, x_cmpne, x_cmplt, x_cmpge, x_cmpgt, x_cmple, x_null, x_nonnull, x_acmpeq, x_acmpne, x_get, x_put, x_putz, x_ald, x_ast, x_bast, x_zast, x_aast, x_alen, x_obj, x_ret, x_retz, x_vret, x_max, x_min, x_copy, x_i2l, qg_none, qg_inl, qg_inr, qg_ite, xr1, xr0, xrE, xri, xl0, xl1, xl2, xl3, xl4, xl5, xl6, xl7, xl8, xl9, xl10, xs0, xs1, xs2, xs3, xs4, xs5, xs6, xs7, xs8, xs9, xs10, xi0, xi1, xi2, xi3, xi4, xi5, xi6, xi7, xi8, xi9, xi10, xc0, xc1, xc2, xc3, xc4, xc5, xc6, xc7, xv1, xv2, xv3, xv4, xv5, xv6, xv7, dT_le, dF_le, dT_lt, dF_lt, h1, h3, hne', t8]
    | succ q ih =>
      intro k h1' h2
      have ih' := ih (k + 1) (by omega) (by omega)
      have e := zfd_up (m := m1) (n := L) (k := k) (v := -1000) h1'
      have t8 : zfd m1 L k (-1000) D 7 = L := by rw [zfd_no (Or.inl hne')]; exact t7
      rw [ev_X3_clear_1]
      simp (disch := omega) [ev_X3_clear_0, ev_X3_clear_2, B_X3_clear_0, B_X3_clear_1, B_X3_clear_2, x_const, x_iadd, x_isub, x_imul, x_idiv, x_irem, x_ineg, x_dup, x_dup_x1, x_dup2, x_pop, x_goto, x_ifeq, x_ifne, x_iflt, x_ifge, x_ifgt, x_ifle, x_cmpeq, x_cmpne, x_cmplt, x_cmpge, x_cmpgt, x_cmple, x_null, x_nonnull, x_acmpeq, x_acmpne, x_get, x_put, x_putz, x_ald, x_ast, x_bast, x_zast, x_aast, x_alen, x_obj, x_ret, x_retz, x_vret, x_max, x_min, x_copy, x_i2l, qg_none, qg_inl, qg_inr, qg_ite, xr1, xr0, xrE, xri, xl0, xl1, xl2, xl3, xl4, xl5, xl6, xl7, xl8, xl9, xl10, xs0, xs1, xs2, xs3, xs4, xs5, xs6, xs7, xs8, xs9, xs10, xi0, xi1, xi2, xi3, xi4, xi5, xi6, xi7, xi8, xi9, xi10, xc0, xc1, xc2, xc3, xc4, xc5, xc6, xc7, xv1, xv2, xv3, xv4, xv5, xv6, xv7, dT_le, dF_le, dT_lt, dF_lt, h1, h3, hne', t8, e, ih']
  have lp := loop 10 0 (by decide) (by decide)
  rw [zfd_0] at lp
  refine ⟨zfd m1 L 10 (-1000), ?_, ?_, ?_, ?_, ?_⟩
  · rw [← hm1] at lp
    unfold f_X3_clear
    refine qa_fn_eq ?_ (by simp)
    simp (disch := omega) [ev_X3_clear_0, ev_X3_clear_2, B_X3_clear_0, B_X3_clear_1, B_X3_clear_2, x_const, x_iadd, x_isub, x_imul, x_idiv, x_irem, x_ineg, x_dup, x_dup_x1, x_dup2, x_pop, x_goto, x_ifeq, x_ifne, x_iflt, x_ifge, x_ifgt, x_ifle, x_cmpeq, x_cmpne, x_cmplt, x_cmpge, x_cmpgt, x_cmple, x_null, x_nonnull, x_acmpeq, x_acmpne, x_get, x_put, x_putz, x_ald, x_ast, x_bast, x_zast, x_aast, x_alen, x_obj, x_ret, x_retz, x_vret, x_max, x_min, x_copy, x_i2l, qg_none, qg_inl, qg_inr, qg_ite, xr1, xr0, xrE, xri, xl0, xl1, xl2, xl3, xl4, xl5, xl6, xl7, xl8, xl9, xl10, xs0, xs1, xs2, xs3, xs4, xs5, xs6, xs7, xs8, xs9, xs10, xi0, xi1, xi2, xi3, xi4, xi5, xi6, xi7, xi8, xi9, xi10, xc0, xc1, xc2, xc3, xc4, xc5, xc6, xc7, xv1, xv2, xv3, xv4, xv5, xv6, xv7, dT_le, dF_le, dT_lt, dF_lt, h1, lp]
    rw [hm1]
  · intro x x1 x2
    funext i
    rw [zfd_no (Or.inl x2), ← hm1]
    simp only [qa_up_no _ (fun z => x1 z.1)]
  · rw [zfd_no (Or.inl hne')]; exact t7
  · intro j j1 j2
    rw [zfd_no (Or.inl hne'), ← hm1]
    unfold qa_up
    have : j = 0 ∨ j = 1 ∨ j = 2 ∨ j = 3 ∨ j = 4 ∨ j = 5 ∨ j = 6 := by omega
    rcases this with rfl | rfl | rfl | rfl | rfl | rfl | rfl <;> simp
  · intro j j1 j2
    exact if_pos ⟨rfl, j1, j2⟩
theorem c_beginR {m : Int → Int → Int} {kd : Int → Nat × Int} {w : Nat × Nat × Nat} {R D L b p t : Int} (h0 : kd R = (10, 0)) (h9 : m R 9 = D) (h1 : kd D = (7, 0)) (h2 : m D 7 = L) (h3 : kd L = (101, 10)) : ∃ m', f_X6_begin [(1, R), (0, b), (0, p), (0, t)] (m, kd, w) = some (.inl none, (m', kd, w)) ∧ (∀ x, x ≠ R → x ≠ D → x ≠ L → m' x = m x) ∧ m' R 9 = D ∧ m' D 7 = L ∧ (∀ j, 0 ≤ j → j ≤ 8 → m' R j = zSeat b p t j) ∧ (∀ j, 0 ≤ j → j ≤ 6 → m' D j = zSeat b p t (9 + j)) ∧ ∀ j, 0 ≤ j → j < 10 → m' L j = -1000 := by
  have hRD : ¬ R = D := fun z => by rw [z, h1] at h0; cases h0
  have hRL : ¬ R = L := fun z => by rw [z, h3] at h0; cases h0
  generalize hm1 : qa_up (qa_up (qa_up (qa_up (qa_up (qa_up (qa_up (qa_up (qa_up m R 0 1) R 1 b) R 2 p) R 3 t) R 4 (-1)) R 5 0) R 6 0) R 7 0) R 8 0 = m1
  have fr : ∀ x, x ≠ R → m1 x = m x := fun x hx => by
    funext i
    rw [← hm1]
    simp only [qa_up_no _ (fun z => hx z.1)]
  have t9 : m1 R 9 = D := by rw [← hm1]; simp (disch := omega) only [qa_up_no]; exact h9
  obtain ⟨m2, i1, i2, i3, i4, i5⟩ := c_clear (m := m1) (w := w) h1 (by rw [fr D (fun z => hRD z.symm)]; exact h2) h3
  refine ⟨m2, ?_, fun x x1 x2 x3 => by rw [i2 x x2 x3, fr x x1], by rw [i2 R hRD hRL]; exact t9, i3, fun j j1 j2 => ?_, fun j j1 j2 => ?_, i5⟩
  · unfold f_X6_begin
    refine qa_fn_eq ?_ (by simp)
    simp (disch := omega) [ev_X6_begin_0, ev_X6_begin_1, B_X6_begin_0, B_X6_begin_1, x_const, x_iadd, x_isub, x_imul, x_idiv, x_irem, x_ineg, x_dup, x_dup_x1, x_dup2, x_pop, x_goto, x_ifeq, x_ifne, x_iflt, x_ifge, x_ifgt, x_ifle, x_cmpeq, x_cmpne, x_cmplt, x_cmpge, x_cmpgt, x_cmple, x_null, x_nonnull, x_acmpeq, x_acmpne, x_get, x_put, x_putz, x_ald, x_ast, x_bast, x_zast, x_aast, x_alen, x_obj, x_ret, x_retz, x_vret, x_max, x_min, x_copy, x_i2l, qg_none, qg_inl, qg_inr, qg_ite, xr1, xr0, xrE, xri, xl0, xl1, xl2, xl3, xl4, xl5, xl6, xl7, xl8, xl9, xl10, xs0, xs1, xs2, xs3, xs4, xs5, xs6, xs7, xs8, xs9, xs10, xi0, xi1, xi2, xi3, xi4, xi5, xi6, xi7, xi8, xi9, xi10, xc0, xc1, xc2, xc3, xc4, xc5, xc6, xc7, xv1, xv2, xv3, xv4, xv5, xv6, xv7, dT_le, dF_le, dT_lt, dF_lt, h0, h1, hm1, t9, i1]
  · rw [i2 R hRD hRL, ← hm1]
    unfold qa_up zSeat
    have : j = 0 ∨ j = 1 ∨ j = 2 ∨ j = 3 ∨ j = 4 ∨ j = 5 ∨ j = 6 ∨ j = 7 ∨ j = 8 := by omega
    rcases this with rfl | rfl | rfl | rfl | rfl | rfl | rfl | rfl | rfl <;> simp
  · rw [i4 j j1 j2]
    unfold zSeat
    have : j = 0 ∨ j = 1 ∨ j = 2 ∨ j = 3 ∨ j = 4 ∨ j = 5 ∨ j = 6 := by omega
    rcases this with rfl | rfl | rfl | rfl | rfl | rfl | rfl <;> simp
theorem c_seat {m : Int → Int → Int} {kd : Int → Nat × Int} {w : Nat × Nat × Nat} {A : zA} {S : Int} (hK : KS kd S) (hC : RC A m kd S) {r b p : Int} (hr : 0 ≤ r ∧ r < 6) (hb : 0 ≤ b ∧ b < 4) : ∃ m', f_X9_seat [(1, S), (0, r), (1, S + 4 + 2 * b), (0, p)] (m, kd, w) = some (.inl none, (m', kd, w)) ∧ RC (zJoin A r b p) m' kd S ∧ zfr m m' S := by
  obtain ⟨⟨f2, f3, f4, fV, fW, f0, f8, f9, f7⟩, e0, e1, eC, eB, eR, eD, eL, eE⟩ := id hC
  obtain ⟨kN, kS, kC, kV, kW, kB, kE, kR, kD, kL⟩ := id hK
  obtain ⟨r1, r2⟩ := hr
  obtain ⟨m1, i1, i2, i3, i4, i5, i6, i7⟩ := c_beginR (m := m) (w := w) (b := b) (p := p) (t := m S 0) (kR r r1 r2) (f9 r r1 r2) (kD r r1 r2) (f7 r r1 r2) (kL r r1 r2)
  have k6 := kB b hb.1 hb.2
  have f0' := f0 b hb.1 hb.2
  have hk := kR r r1 r2
  have fW' := fW r r1 r2
  have hn1 := hK.neg hk (by decide)
  have hn2 := hK.neg k6 (by decide)
  refine ⟨m1, ?_, ?_, fun c hc => i2 c (by omega) (by omega) (by omega)⟩
  · unfold f_X9_seat
    refine qa_fn_eq ?_ (by simp)
    simp (disch := omega) [ev_X9_seat_0, ev_X9_seat_1, B_X9_seat_0, B_X9_seat_1, x_const, x_iadd, x_isub, x_imul, x_idiv, x_irem, x_ineg, x_dup, x_dup_x1, x_dup2, x_pop, x_goto, x_ifeq, x_ifne, x_iflt, x_ifge, x_ifgt, x_ifle, x_cmpeq, x_cmpne, x_cmplt, x_cmpge, x_cmpgt, x_cmple, x_null, x_nonnull, x_acmpeq, x_acmpne, x_get, x_put, x_putz, x_ald, x_ast, x_bast, x_zast, x_aast, x_alen, x_obj, x_ret, x_retz, x_vret, x_max, x_min, x_copy, x_i2l, qg_none, qg_inl, qg_inr, qg_ite, xr1, xr0, xrE, xri, xl0, xl1, xl2, xl3, xl4, xl5, xl6, xl7, xl8, xl9, xl10, xs0, xs1, xs2, xs3, xs4, xs5, xs6, xs7, xs8, xs9, xs10, xi0, xi1, xi2, xi3, xi4, xi5, xi6, xi7, xi8, xi9, xi10, xc0, xc1, xc2, xc3, xc4, xc5, xc6, xc7, xv1, xv2, xv3, xv4, xv5, xv6, xv7, dT_le, dF_le, dT_lt, dF_lt, kS, kW, f4, k6, f0', fW', hk, hn1, hn2, i1]
  · refine RC_rd hK hC (k := r) r1 r2 (fun c c1 c2 c3 => i2 c c1 c2 c3) i3 i4 (fun r' j h => zJoin_n A h) (fun j j1 j2 => ?_) (fun _ j j1 j2 => ?_) (fun _ j j1 j2 => ?_)
    · rw [i5 j j1 j2, if_pos rfl, e0]
    · rw [i6 j j1 j2, if_pos rfl, e0]
    · rw [i7 j j1 j2, if_pos rfl]
      unfold zSeat
      simp (disch := omega) only [if_neg]
theorem zW_join {M : Int} {A : zA} (hW : zW M A) {r b p : Int} (hb : zBl A b) (hp : A.2.1 b 4 ≤ p ∧ p ≤ A.2.1 b 5) : zW M (zJoin A r b p) := by
  obtain ⟨⟨w0, w1, w2, w3, w4, w5⟩, w6, w7, w8, w9, wB, wE, wR, wD⟩ := id hW
  have tn := w3
  refine zW_rd hW ⟨Int.le_refl _, w1⟩ (k := r) (R' := (zJoin A r b p).2.2.1) (fun r' j h => zJoin_n A h) (Or.inr ?_) (fun _ => ⟨?_, ?_⟩)
  · rw [zJoin_r]; rfl
  · unfold zWr
    show zBl A ((zJoin A r b p).2.2.1 r 1) ∧ A.2.1 ((zJoin A r b p).2.2.1 r 1) 4 ≤ (zJoin A r b p).2.2.1 r 2 ∧ _
    simp only [zJoin_r]
    have z1 : zSeat b p (A.1 0) 1 = b := rfl
    have z2 : zSeat b p (A.1 0) 2 = p := rfl
    have z3 : zSeat b p (A.1 0) 3 = A.1 0 := rfl
    have z4 : zSeat b p (A.1 0) 4 = -1 := rfl
    have z5 : zSeat b p (A.1 0) 5 = 0 := rfl
    have z6 : zSeat b p (A.1 0) 6 = 0 := rfl
    have z7 : zSeat b p (A.1 0) 7 = 0 := rfl
    have z8 : zSeat b p (A.1 0) 8 = 0 := rfl
    rw [z1, z2, z3, z4, z5, z6, z7, z8]
    exact ⟨hb, hp.1, hp.2, by omega, by omega, by omega, by omega, by omega, by omega, by omega, by omega, by omega, by omega, by omega, by omega⟩
  · have dg : 0 ≤ zgs A := hW.gs.1
    unfold zWd
    show 0 ≤ (zJoin A r b p).2.2.1 r 9 ∧ (zJoin A r b p).2.2.1 r 9 ≤ zgs A ∧ _
    simp only [zJoin_r]
    refine ⟨by simp [zSeat], by simp [zSeat]; exact dg, by simp [zSeat], by simp [zSeat], by simp [zSeat], by simp [zSeat], fun _ => ⟨by simp [zSeat], by simp [zSeat], by simp [zSeat], by simp [zSeat], by simp [zSeat], by simp [zSeat], fun k k1 k2 => ?_⟩⟩
    unfold zSeat
    simp (disch := omega) only [if_neg]
theorem ca_join {m : Int → Int → Int} {kd : Int → Nat × Int} {n c s : Nat} {um S : Int} {U SV : Int → zA} {A : zA} {M : Int} (hS : CS um U SV A m kd n S) (hW : zW M A) (ha : ∀ i, 0 ≤ i → i ≤ 10 → 0 ≤ m 65 i ∧ m 65 i < 100000000) {b e : Int} (hb : zBl A b) : (zff (fun r => A.2.2.1 r 0 = 0) 0 6 = -1 → cRef 1 m kd (n, c, s) (f_X11_join [(1, 0), (0, b), (0, e)] (m, kd, n, c, s))) ∧ (zff (fun r => A.2.2.1 r 0 = 0) 0 6 ≠ -1 → cDone um U SV A (zJoin A (zff (fun r => A.2.2.1 r 0 = 0) 0 6) b (if e = 0 then A.2.1 b 4 else A.2.1 b 5)) (zff (fun r => A.2.2.1 r 0 = 0) 0 6) m kd n c s S (f_X11_join [(1, 0), (0, b), (0, e)] (m, kd, n, c, s))) := by
  obtain ⟨hK, hC, hx, hn, h4, k64, h00, k1, x640, x65⟩ := hS.f
  have nb := c_needBranch (w := (n, c, s)) hK hC hW hx hn b
  rw [if_pos hb] at nb
  obtain ⟨b1, b2, b3⟩ := id hb
  have fr := c_freeReader (w := (n, c, s)) hK hC hW
  have kS := hK.2.1
  have rf := c_refuse (w := (n, c, s)) (r := 1) k64 x640 x65 (by decide) (ha 1 (by decide) (by decide))
  have hl := zff_le (p := fun r => A.2.2.1 r 0 = 0) 6 0
  generalize zff (fun r => A.2.2.1 r 0 = 0) 0 6 = z at hl fr ⊢
  refine ⟨fun h => ⟨by decide, by decide, ?_⟩, fun h => ?_⟩
  · rw [h] at fr
    unfold f_X11_join
    refine qa_fn_eq ?_ (by simp)
    simp (disch := omega) [ev_X11_join_0, ev_X11_join_1, ev_X11_join_2, ev_X11_join_3, B_X11_join_0, B_X11_join_1, B_X11_join_2, B_X11_join_3, x_const, x_iadd, x_isub, x_imul, x_idiv, x_irem, x_ineg, x_dup, x_dup_x1, x_dup2, x_pop, x_goto, x_ifeq, x_ifne, x_iflt, x_ifge, x_ifgt, x_ifle, x_cmpeq, x_cmpne, x_cmplt, x_cmpge, x_cmpgt, x_cmple, x_null, x_nonnull, x_acmpeq, x_acmpne, x_get, x_put, x_putz, x_ald, x_ast, x_bast, x_zast, x_aast, x_alen, x_obj, x_ret, x_retz, x_vret, x_max, x_min, x_copy, x_i2l, qg_none, qg_inl, qg_inr, qg_ite, xr1, xr0, xrE, xri, xl0, xl1, xl2, xl3, xl4, xl5, xl6, xl7, xl8, xl9, xl10, xs0, xs1, xs2, xs3, xs4, xs5, xs6, xs7, xs8, xs9, xs10, xi0, xi1, xi2, xi3, xi4, xi5, xi6, xi7, xi8, xi9, xi10, xc0, xc1, xc2, xc3, xc4, xc5, xc6, xc7, xv1, xv2, xv3, xv4, xv5, xv6, xv7, dT_le, dF_le, dT_lt, dF_lt, hx, hn, kS, h4, k64, nb, fr, rf]
  · obtain ⟨m1, kd1, n1, c1, s1, i1, i2, i3, i4, i5, i6, i7, i8, i9⟩ := c_begS (c := c) (s := s) hS hW (ha 0 (by decide) (by decide))
    obtain ⟨hK1, hC1, hx1, hn1, h41, k641, h001, k11, -⟩ := i2.f
    obtain ⟨m2, j1, j2, j3⟩ := c_seat (w := (n1, c1, s1)) (r := z) (b := b) (p := if e = 0 then A.2.1 b 4 else A.2.1 b 5) hK1 hC1 (by omega) ⟨b1, b2⟩
    obtain ⟨g1, g2, g3, g4⟩ := CS_now i2 j3 j2
    have kS1 := hK1.2.1
    have kb1 := hK1.2.2.2.2.2.1 b b1 b2
    have t4 := hC1.2.2.2.2.1 b 4 b1 b2 (by decide) (by decide)
    have t5 := hC1.2.2.2.2.1 b 5 b1 b2 (by decide) (by decide)
    refine ⟨m2, kd1, n1, c1, s1, ?_, g1, i3.trans g2, fun i => by rw [g3]; exact i4 i, by rw [g4]; omega, by rw [g4]; omega, i7, i8, i9⟩
    unfold f_X11_join
    refine qa_fn_eq ?_ (by simp; exact ⟨i7, i8, i9⟩)
    by_cases he : e = 0
    · rw [if_pos he] at j1
      simp (disch := omega) [ev_X11_join_0, ev_X11_join_1, ev_X11_join_2, ev_X11_join_3, B_X11_join_0, B_X11_join_1, B_X11_join_2, B_X11_join_3, x_const, x_iadd, x_isub, x_imul, x_idiv, x_irem, x_ineg, x_dup, x_dup_x1, x_dup2, x_pop, x_goto, x_ifeq, x_ifne, x_iflt, x_ifge, x_ifgt, x_ifle, x_cmpeq, x_cmpne, x_cmplt, x_cmpge, x_cmpgt, x_cmple, x_null, x_nonnull, x_acmpeq, x_acmpne, x_get, x_put, x_putz, x_ald, x_ast, x_bast, x_zast, x_aast, x_alen, x_obj, x_ret, x_retz, x_vret, x_max, x_min, x_copy, x_i2l, qg_none, qg_inl, qg_inr, qg_ite, xr1, xr0, xrE, xri, xl0, xl1, xl2, xl3, xl4, xl5, xl6, xl7, xl8, xl9, xl10, xs0, xs1, xs2, xs3, xs4, xs5, xs6, xs7, xs8, xs9, xs10, xi0, xi1, xi2, xi3, xi4, xi5, xi6, xi7, xi8, xi9, xi10, xc0, xc1, xc2, xc3, xc4, xc5, xc6, xc7, xv1, xv2, xv3, xv4, xv5, xv6, xv7, dT_le, dF_le, dT_lt, dF_lt, dT_eq, dF_eq, qa_up_hit, qa_up_no, dF_eq, hx, hn, h4, k64, hx1, hn1, nb, fr, h, he, i1, kS, kS1, kb1, t4, t5, j1]
    · rw [if_neg he] at j1
      simp (disch := omega) [ev_X11_join_0, ev_X11_join_1, ev_X11_join_2, ev_X11_join_3, B_X11_join_0, B_X11_join_1, B_X11_join_2, B_X11_join_3, x_const, x_iadd, x_isub, x_imul, x_idiv, x_irem, x_ineg, x_dup, x_dup_x1, x_dup2, x_pop, x_goto, x_ifeq, x_ifne, x_iflt, x_ifge, x_ifgt, x_ifle, x_cmpeq, x_cmpne, x_cmplt, x_cmpge, x_cmpgt, x_cmple, x_null, x_nonnull, x_acmpeq, x_acmpne, x_get, x_put, x_putz, x_ald, x_ast, x_bast, x_zast, x_aast, x_alen, x_obj, x_ret, x_retz, x_vret, x_max, x_min, x_copy, x_i2l, qg_none, qg_inl, qg_inr, qg_ite, xr1, xr0, xrE, xri, xl0, xl1, xl2, xl3, xl4, xl5, xl6, xl7, xl8, xl9, xl10, xs0, xs1, xs2, xs3, xs4, xs5, xs6, xs7, xs8, xs9, xs10, xi0, xi1, xi2, xi3, xi4, xi5, xi6, xi7, xi8, xi9, xi10, xc0, xc1, xc2, xc3, xc4, xc5, xc6, xc7, xv1, xv2, xv3, xv4, xv5, xv6, xv7, dT_le, dF_le, dT_lt, dF_lt, dT_eq, dF_eq, qa_up_hit, qa_up_no, dF_eq, hx, hn, h4, k64, hx1, hn1, nb, fr, h, he, i1, kS, kS1, kb1, t4, t5, j1]
