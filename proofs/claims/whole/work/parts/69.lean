def zFork (A : zA) (f b : Int) : zA := (A.1, fun b' j => if b' = f then (if j = 1 then 1 else if j = 2 then b else if j = 3 then A.2.1 b 5 else if j = 7 then 0 else A.2.1 b j) else A.2.1 b' j, A.2.2.1, fun b' p j => if b' = f then A.2.2.2 b p j else A.2.2.2 b' p j)
theorem zFork_f (A : zA) (f b j : Int) : (zFork A f b).2.1 f j = if j = 1 then 1 else if j = 2 then b else if j = 3 then A.2.1 b 5 else if j = 7 then 0 else A.2.1 b j := if_pos rfl
theorem zFork_o (A : zA) {f b b' : Int} (j : Int) (h : b' ≠ f) : (zFork A f b).2.1 b' j = A.2.1 b' j := if_neg h
theorem zFork_ef (A : zA) (f b p j : Int) : (zFork A f b).2.2.2 f p j = A.2.2.2 b p j := if_pos rfl
theorem zFork_eo (A : zA) {f b b' : Int} (p j : Int) (h : b' ≠ f) : (zFork A f b).2.2.2 b' p j = A.2.2.2 b' p j := if_neg h
theorem zW_fork {M : Int} {A : zA} (hW : zW M A) {f b : Int} (hb : zBl A b) (f1 : 0 ≤ f ∧ f < 4) (hz0 : A.2.1 f 1 = 0) (hM : M + 512 ≤ 500000) : zW (M + 512) (zFork A f b) := by
  have hbn := hW.bn hb
  have hbf : b ≠ f := fun z => by rw [← z, hb.2.2] at hz0; omega
  have hl : zlive (zFork A f b) ≤ zlive A + 512 := by
    obtain ⟨b1, b2, b3⟩ := hb
    rw [zlive_4, zlive_4]
    have hf : f = 0 ∨ f = 1 ∨ f = 2 ∨ f = 3 := by omega
    have e4 : (zFork A f b).2.1 f 4 = A.2.1 b 4 := by rw [zFork_f]; rfl
    have e5 : (zFork A f b).2.1 f 5 = A.2.1 b 5 := by rw [zFork_f]; rfl
    have e1 : (zFork A f b).2.1 f 1 = 1 := by rw [zFork_f]; rfl
    rcases hf with h | h | h | h <;> rw [h] at e1 e4 e5 hz0 ⊢ <;> rw [e1, e4, e5, if_pos rfl] <;> simp only [hz0, zFork_o A (f := 0) (b := b) (b' := 1) _ (by decide), zFork_o A (f := 0) (b := b) (b' := 2) _ (by decide), zFork_o A (f := 0) (b := b) (b' := 3) _ (by decide), zFork_o A (f := 1) (b := b) (b' := 0) _ (by decide), zFork_o A (f := 1) (b := b) (b' := 2) _ (by decide), zFork_o A (f := 1) (b := b) (b' := 3) _ (by decide), zFork_o A (f := 2) (b := b) (b' := 0) _ (by decide), zFork_o A (f := 2) (b := b) (b' := 1) _ (by decide), zFork_o A (f := 2) (b := b) (b' := 3) _ (by decide), zFork_o A (f := 3) (b := b) (b' := 0) _ (by decide), zFork_o A (f := 3) (b := b) (b' := 1) _ (by decide), zFork_o A (f := 3) (b := b) (b' := 2) _ (by decide)] <;> simp <;> omega
  obtain ⟨⟨w0, w1, w2, w3, w4, w5⟩, w6, w7, w8, w9, wB, wE, wR, wD⟩ := id hW
  obtain ⟨b1, b2, b3⟩ := id hb
  have hne : ∀ b', A.2.1 b' 1 = 1 → b' ≠ f := fun b' h z => by rw [z] at h; omega
  refine ⟨⟨by omega, by omega, w2, w3, w4, w5⟩, w6, by show zgs A + zlive (zFork A f b) ≤ M + 512; omega, fun b' a1 a2 => ?_, w9, fun b' a1 a2 a3 => ?_, fun b' p a1 a2 a3 p1 p2 => ?_, fun r r1 r2 r3 => ?_, wD⟩
  · by_cases e : b' = f
    · rw [e, zFork_f]; exact Or.inr rfl
    · rw [zFork_o A _ e]; exact w8 b' a1 a2
  · by_cases e : b' = f
    · have := wB b b1 b2 b3
      unfold zWb at this ⊢
      rw [e, zFork_f, zFork_f, zFork_f, zFork_f]
      obtain ⟨q1, q2, q3, q4, q5, q6⟩ := this
      refine ⟨q1, q2, q3, by simp, by simpa using q1, ?_⟩
      have : (fun p => (zFork A f b).2.2.2 f p 2) = fun p => A.2.2.2 b p 2 := by funext p; exact zFork_ef A f b p 2
      rw [this]
      exact q6
    · rw [zFork_o A _ e] at a3
      have := wB b' a1 a2 a3
      unfold zWb at this ⊢
      have ee : (fun p => (zFork A f b).2.2.2 b' p 2) = fun p => A.2.2.2 b' p 2 := by funext p; exact zFork_eo A p 2 e
      simp only [zFork_o A _ e]
      rw [ee]
      exact this
  · by_cases e : b' = f
    · rw [e, zFork_f] at p1 p2
      have := wE b p b1 b2 b3 p1 p2
      unfold zWe at this ⊢
      rw [e]
      simp only [zFork_ef]
      exact this
    · rw [zFork_o A _ e] at a3 p1 p2
      have := wE b' p a1 a2 a3 p1 p2
      unfold zWe at this ⊢
      simp only [zFork_eo A _ _ e]
      exact this
  · have := wR r r1 r2 r3
    unfold zWr at this ⊢
    obtain ⟨q1, q2, q3, q4, q5, q6, q7, q8, q9, q10, q11, q12, q13, q14, q15⟩ := this
    have e := hne _ q1.2.2
    show zBl (zFork A f b) (A.2.2.1 r 1) ∧ (zFork A f b).2.1 (A.2.2.1 r 1) 4 ≤ A.2.2.1 r 2 ∧ A.2.2.1 r 2 ≤ (zFork A f b).2.1 (A.2.2.1 r 1) 5 ∧ _
    rw [zFork_o A _ e, zFork_o A _ e]
    exact ⟨⟨q1.1, q1.2.1, by rw [zFork_o A _ e]; exact q1.2.2⟩, q2, q3, q4, q5, q6, q7, q8, Int.le_trans q9 (by omega), q10, q11, q12, Int.le_trans q13 (by omega), q14, Int.le_trans q15 (by omega)⟩
theorem c_beginAs {m : Int → Int → Int} {kd : Int → Nat × Int} {w : Nat × Nat × Nat} {A : zA} {S : Int} (hK : KS kd S) (hC : RC A m kd S) {M : Int} (hW : zW M A) {f b : Int} (hb : zBl A b) (f1 : 0 ≤ f ∧ f < 4) (hz0 : A.2.1 f 1 = 0) : ∃ m', f_X2_beginAs [(1, S + 4 + 2 * f), (1, S + 4 + 2 * b)] (m, kd, w) = some (.inl none, (m', kd, w)) ∧ RC (zFork A f b) m' kd S ∧ zfr m m' S := by
  have hbn := hW.bn hb
  have hbf : b ≠ f := fun z => by rw [← z, hb.2.2] at hz0; omega
  obtain ⟨⟨f2, f3, f4, fV, fW, f0, f8, f9, f7⟩, e0, e1, eC, eB, eR, eD, eL, eE⟩ := id hC
  obtain ⟨kN, kS, kC, kV, kW, kB, kE, kR, kD, kL⟩ := id hK
  obtain ⟨b1, b2, b3⟩ := id hb
  obtain ⟨f1, g2⟩ := f1
  have t1 : m (S + 4 + 2 * b) 1 = A.2.1 b 1 := eB b 1 b1 b2 (by decide) (by decide)
  have t4 : m (S + 4 + 2 * b) 4 = A.2.1 b 4 := eB b 4 b1 b2 (by decide) (by decide)
  have t5 : m (S + 4 + 2 * b) 5 = A.2.1 b 5 := eB b 5 b1 b2 (by decide) (by decide)
  have kf := kB f f1 g2
  have kb := kB b b1 b2
  obtain ⟨m1, i1, i2, i3, i4, i5, i6⟩ := c_copyB (m := m) (w := w) (H := S + 4 + 2 * f) (H0 := S + 4 + 2 * b) (X := S + 5 + 2 * f) (X0 := S + 5 + 2 * b) kf kb (kE f f1 g2) (kE b b1 b2) (by omega) (f8 f f1 g2) (f8 b b1 b2) (by omega) (by rw [t1]; omega) (fun _ => ⟨fun p p1 p2 => by rw [t4] at p1; rw [t5] at p2; rw [(eE b p b1 b2 b3 p1 p2).1], by omega, by omega⟩)
  have u0 : m1 (S + 4 + 2 * b) 0 = b := by rw [i2 _ (by omega) (by omega)]; exact f0 b b1 b2
  have u5 : m1 (S + 4 + 2 * b) 5 = A.2.1 b 5 := by rw [i2 _ (by omega) (by omega)]; exact t5
  have no : ∀ c, c ≠ S + 4 + 2 * f → qa_up (qa_up (qa_up m1 (S + 4 + 2 * f) 2 b) (S + 4 + 2 * f) 3 (A.2.1 b 5)) (S + 4 + 2 * f) 7 0 c = m1 c := fun c hc => by
    funext i
    rw [qa_up_no _ (fun z => hc z.1), qa_up_no _ (fun z => hc z.1), qa_up_no _ (fun z => hc z.1)]
  have nn : ∀ c, c ≠ S + 4 + 2 * f → c ≠ S + 5 + 2 * f → qa_up (qa_up (qa_up m1 (S + 4 + 2 * f) 2 b) (S + 4 + 2 * f) 3 (A.2.1 b 5)) (S + 4 + 2 * f) 7 0 c = m c := fun c c1 c2 => by
    rw [no c c1, i2 c c1 c2]
  generalize hm3 : qa_up (qa_up (qa_up m1 (S + 4 + 2 * f) 2 b) (S + 4 + 2 * f) 3 (A.2.1 b 5)) (S + 4 + 2 * f) 7 0 = m3 at no nn
  refine ⟨m3, ?_, ?_, fun c hc => nn c (by omega) (by omega)⟩
  · unfold f_X2_beginAs
    refine qa_fn_eq ?_ (by simp)
    simp (disch := omega) [ev_X2_beginAs_0, B_X2_beginAs_0, x_const, x_iadd, x_isub, x_imul, x_idiv, x_irem, x_ineg, x_dup, x_dup_x1, x_dup2, x_pop, x_goto, x_ifeq, x_ifne, x_iflt, x_ifge, x_ifgt, x_ifle, x_cmpeq, x_cmpne, x_cmplt, x_cmpge, x_cmpgt, x_cmple, x_null, x_nonnull, x_acmpeq, x_acmpne, x_get, x_put, x_putz, x_ald, x_ast, x_bast, x_zast, x_aast, x_alen, x_obj, x_ret, x_retz, x_vret, x_max, x_min, x_copy, x_i2l, qg_none, qg_inl, qg_inr, qg_ite, xr1, xr0, xrE, xri, xl0, xl1, xl2, xl3, xl4, xl5, xl6, xl7, xl8, xl9, xl10, xs0, xs1, xs2, xs3, xs4, xs5, xs6, xs7, xs8, xs9, xs10, xi0, xi1, xi2, xi3, xi4, xi5, xi6, xi7, xi8, xi9, xi10, xc0, xc1, xc2, xc3, xc4, xc5, xc6, xc7, xv1, xv2, xv3, xv4, xv5, xv6, xv7, dT_le, dF_le, dT_lt, dF_lt, dT_eq, dF_eq, qa_up_hit, qa_up_no, kf, kb, i1, u0, u5, hm3]
  · have vf : ∀ j, 1 ≤ j → j ≤ 7 → m3 (S + 4 + 2 * f) j = (zFork A f b).2.1 f j := fun j j1 j2 => by
      rw [← hm3, zFork_f]
      have y := i3 j j1 j2
      rw [eB b j b1 b2 j1 j2] at y
      unfold qa_up
      by_cases h7 : j = 7
      · subst h7; simp
      · by_cases h3 : j = 3
        · subst h3; simp
        · by_cases h2 : j = 2
          · subst h2; simp
          · simp only [h7, h3, h2, and_false, if_false]
            rw [y]
            by_cases h1 : j = 1
            · subst h1; rw [if_pos rfl]; exact b3
            · rw [if_neg h1]
    have v0 : m3 (S + 4 + 2 * f) 0 = f := by
      rw [← hm3, qa_up_no _ (by omega), qa_up_no _ (by omega), qa_up_no _ (by omega), i4]; exact f0 f f1 g2
    have v8 : m3 (S + 4 + 2 * f) 8 = S + 5 + 2 * f := by
      rw [← hm3, qa_up_no _ (by omega), qa_up_no _ (by omega), qa_up_no _ (by omega), i5]
    have ne : ∀ x, kd x = (9, 0) → m3 x = m x := fun x hx => by
      have := hK.entry hx
      exact nn x (by omega) (by omega)
    refine ⟨⟨by rw [nn _ (by omega) (by omega)]; exact f2, by rw [nn _ (by omega) (by omega)]; exact f3, by rw [nn _ (by omega) (by omega)]; exact f4, fun b' a1 a2 => by rw [nn _ (by omega) (by omega)]; exact fV b' a1 a2, fun r a1 a2 => by rw [nn _ (by omega) (by omega)]; exact fW r a1 a2, fun b' a1 a2 => ?_, fun b' a1 a2 => ?_, fun r a1 a2 => by rw [nn _ (by omega) (by omega)]; exact f9 r a1 a2, fun r a1 a2 => by rw [nn _ (by omega) (by omega)]; exact f7 r a1 a2⟩, by rw [nn _ (by omega) (by omega)]; exact e0, by rw [nn _ (by omega) (by omega)]; exact e1, fun i i1 i2 => by rw [nn _ (by omega) (by omega)]; exact eC i i1 i2, fun b' j a1 a2 j1 j2 => ?_, fun r j a1 a2 j1 j2 => by rw [nn _ (by omega) (by omega)]; exact eR r j a1 a2 j1 j2, fun r j a1 a2 rt j1 j2 => by rw [nn _ (by omega) (by omega)]; exact eD r j a1 a2 rt j1 j2, fun r j a1 a2 rt j1 j2 => by rw [nn _ (by omega) (by omega)]; exact eL r j a1 a2 rt j1 j2, fun b' p a1 a2 bt p1 p2 => ?_⟩
    · by_cases e : b' = f
      · rw [e]; exact v0
      · rw [nn _ (by omega) (by omega)]; exact f0 b' a1 a2
    · by_cases e : b' = f
      · rw [e]; exact v8
      · rw [nn _ (by omega) (by omega)]; exact f8 b' a1 a2
    · by_cases e : b' = f
      · rw [e]; exact vf j j1 j2
      · rw [nn _ (by omega) (by omega), zFork_o A j e]; exact eB b' j a1 a2 j1 j2
    · by_cases e : b' = f
      · rw [e] at bt p1 p2 ⊢
        have p1' : A.2.1 b 4 ≤ p := by rw [zFork_f] at p1; exact p1
        have p2' : p < A.2.1 b 5 := by rw [zFork_f] at p2; exact p2
        have y := eE b p b1 b2 b3 p1' p2'
        have hx : m3 (S + 5 + 2 * f) p = m (S + 5 + 2 * b) p := by
          rw [no _ (by omega)]
          exact i6 (by rw [t1]; exact b3) p (by rw [t4]; exact p1') (by rw [t5]; exact p2')
        rw [hx]
        refine ⟨y.1, fun j j1 j2 => ?_⟩
        rw [ne _ y.1, zFork_ef]
        exact y.2 j j1 j2
      · rw [zFork_o A _ e] at bt p1 p2
        have y := eE b' p a1 a2 bt p1 p2
        rw [nn _ (by omega) (by omega)]
        refine ⟨y.1, fun j j1 j2 => ?_⟩
        rw [ne _ y.1, zFork_eo A _ _ e]
        exact y.2 j j1 j2
theorem ca_fork {m : Int → Int → Int} {kd : Int → Nat × Int} {n c s : Nat} {um S : Int} {U SV : Int → zA} {A : zA} {M : Int} (hS : CS um U SV A m kd n S) (hW : zW M A) (ha : ∀ i, 0 ≤ i → i ≤ 10 → 0 ≤ m 65 i ∧ m 65 i < 100000000) {b : Int} (hb : zBl A b) : (zff (fun b => A.2.1 b 1 = 0) 0 4 = -1 → cRef 2 m kd (n, c, s) (f_X11_fork [(1, 0), (0, b)] (m, kd, n, c, s))) ∧ (zff (fun b => A.2.1 b 1 = 0) 0 4 ≠ -1 → cDone um U SV A (zFork A (zff (fun b => A.2.1 b 1 = 0) 0 4) b) (zff (fun b => A.2.1 b 1 = 0) 0 4) m kd n c s S (f_X11_fork [(1, 0), (0, b)] (m, kd, n, c, s))) := by
  obtain ⟨hK, hC, hx, hn, h4, k64, h00, k1, x640, x65⟩ := hS.f
  have nb := c_needBranch (w := (n, c, s)) hK hC hW hx hn b
  rw [if_pos hb] at nb
  obtain ⟨b1, b2, b3⟩ := id hb
  have fr := c_freeBranch (w := (n, c, s)) hK hC hW
  have kS := hK.2.1
  have kb := hK.2.2.2.2.2.1 b b1 b2
  have rf := c_refuse (w := (n, c, s)) (r := 2) k64 x640 x65 (by decide) (ha 2 (by decide) (by decide))
  have hl := zff_le (p := fun b => A.2.1 b 1 = 0) 4 0
  generalize zff (fun b => A.2.1 b 1 = 0) 0 4 = z at hl fr ⊢
  refine ⟨fun h => ⟨by decide, by decide, ?_⟩, fun h => ?_⟩
  · rw [if_pos h] at fr
    unfold f_X11_fork
    refine qa_fn_eq ?_ (by simp)
    simp (disch := omega) [ev_X11_fork_0, ev_X11_fork_1, B_X11_fork_0, B_X11_fork_1, x_const, x_iadd, x_isub, x_imul, x_idiv, x_irem, x_ineg, x_dup, x_dup_x1, x_dup2, x_pop, x_goto, x_ifeq, x_ifne, x_iflt, x_ifge, x_ifgt, x_ifle, x_cmpeq, x_cmpne, x_cmplt, x_cmpge, x_cmpgt, x_cmple, x_null, x_nonnull, x_acmpeq, x_acmpne, x_get, x_put, x_putz, x_ald, x_ast, x_bast, x_zast, x_aast, x_alen, x_obj, x_ret, x_retz, x_vret, x_max, x_min, x_copy, x_i2l, qg_none, qg_inl, qg_inr, qg_ite, xr1, xr0, xrE, xri, xl0, xl1, xl2, xl3, xl4, xl5, xl6, xl7, xl8, xl9, xl10, xs0, xs1, xs2, xs3, xs4, xs5, xs6, xs7, xs8, xs9, xs10, xi0, xi1, xi2, xi3, xi4, xi5, xi6, xi7, xi8, xi9, xi10, xc0, xc1, xc2, xc3, xc4, xc5, xc6, xc7, xv1, xv2, xv3, xv4, xv5, xv6, xv7, dT_le, dF_le, dT_lt, dF_lt, hx, hn, kS, h4, k64, nb, fr, rf]
  · rw [if_neg h] at fr
    have hz : 0 ≤ z ∧ z < 4 ∧ A.2.1 z 1 = 0 := by omega
    have kz := hK.2.2.2.2.2.1 z hz.1 hz.2.1
    have nz := hK.neg kz (by decide)
    obtain ⟨m1, kd1, n1, c1, s1, i1, i2, i3, i4, i5, i6, i7, i8, i9⟩ := c_begS (c := c) (s := s) hS hW (ha 0 (by decide) (by decide))
    obtain ⟨hK1, hC1, hx1, hn1, h41, k641, h001, k11, -⟩ := i2.f
    obtain ⟨m2, j1, j2, j3⟩ := c_beginAs (w := (n1, c1, s1)) hK1 hC1 hW hb ⟨hz.1, hz.2.1⟩ hz.2.2
    obtain ⟨g1, g2, g3, g4⟩ := CS_now i2 j3 j2
    have kS1 := hK1.2.1
    have kb1 := hK1.2.2.2.2.2.1 b b1 b2
    have kz1 := hK1.2.2.2.2.2.1 z hz.1 hz.2.1
    have t0 : m2 (S + 4 + 2 * z) 0 = z := j2.1.2.2.2.2.2.1 z hz.1 hz.2.1
    refine ⟨m2, kd1, n1, c1, s1, ?_, g1, i3.trans g2, fun i => by rw [g3]; exact i4 i, by rw [g4]; omega, by rw [g4]; omega, i7, i8, i9⟩
    unfold f_X11_fork
    refine qa_fn_eq ?_ (by simp; exact ⟨i7, i8, i9⟩)
    simp (disch := omega) [ev_X11_fork_0, ev_X11_fork_1, B_X11_fork_0, B_X11_fork_1, x_const, x_iadd, x_isub, x_imul, x_idiv, x_irem, x_ineg, x_dup, x_dup_x1, x_dup2, x_pop, x_goto, x_ifeq, x_ifne, x_iflt, x_ifge, x_ifgt, x_ifle, x_cmpeq, x_cmpne, x_cmplt, x_cmpge, x_cmpgt, x_cmple, x_null, x_nonnull, x_acmpeq, x_acmpne, x_get, x_put, x_putz, x_ald, x_ast, x_bast, x_zast, x_aast, x_alen, x_obj, x_ret, x_retz, x_vret, x_max, x_min, x_copy, x_i2l, qg_none, qg_inl, qg_inr, qg_ite, xr1, xr0, xrE, xri, xl0, xl1, xl2, xl3, xl4, xl5, xl6, xl7, xl8, xl9, xl10, xs0, xs1, xs2, xs3, xs4, xs5, xs6, xs7, xs8, xs9, xs10, xi0, xi1, xi2, xi3, xi4, xi5, xi6, xi7, xi8, xi9, xi10, xc0, xc1, xc2, xc3, xc4, xc5, xc6, xc7, xv1, xv2, xv3, xv4, xv5, xv6, xv7, dT_le, dF_le, dT_lt, dF_lt, dT_eq, dF_eq, qa_up_hit, qa_up_no, hx, hn, h4, k64, hx1, hn1, nb, fr, nz, i1, kS, kS1, kb1, kz1, j1, t0]
