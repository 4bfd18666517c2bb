theorem JS_keep {m m' : Int → Int → Int} {kd : Int → Nat × Int} {n : Int} (hJ : JS m kd n) (hm : ∀ c, 93 ≤ c → m' c = m c) (h66 : m' 66 = m 66) (h63 : m' 63 = m 63) : JS m' kd n := by
  obtain ⟨j1, j2, j3, j4, j5, j6, j7⟩ := hJ
  have hO : ∀ S', JO m kd n S' → JO m' kd n S' := fun S' h => ⟨h.1, h.2.1, h.2.2.1, MS_keep h.2.2.2 (fun c a b => hm c (by have := h.1; omega))⟩
  exact ⟨fun i a b => by rw [h66]; exact (j1 i a b).imp id (hO _), fun i a b => by rw [h63]; exact (j2 i a b).imp id (hO _), fun i j a b c d e f => by rw [h66] at f ⊢; exact j3 i j a b c d e f, fun i j a b c d e => by rw [h66] at e ⊢; rw [h63]; exact j4 i j a b c d e, by rw [h63]; exact j5, j6, j7⟩
theorem RC_93 {A : zA} {m m' : Int → Int → Int} {kd : Int → Nat × Int} {n S : Int} (hC : RC A m kd S) (hO : JO m kd n S) (hm : ∀ c, 93 ≤ c → m' c = m c) (he : ∀ e, kd e = (9, 0) → m' e = m e) : RC A m' kd S := RC_keep hC (fun c a b => hm c (by have := hO.1; omega)) (fun e h => ⟨he e h, rfl⟩)
theorem c_begin {m : Int → Int → Int} {kd : Int → Nat × Int} {n c s : Nat} {um : Int} {U SV : Int → zA} {A : zA} {M : Int} (hX : CX m kd) (hJ : JS m kd n) (hU : CU um U m kd) (hV : CV SV m kd) (hC : RC A m kd 3) (hW : zW M A) (ha : 0 ≤ m 65 0 ∧ m 65 0 < 100000000) : ∃ m' kd' n' c' s', f_X1_begin [(1, 64), (1, 3)] (m, kd, n, c, s) = some (.inl none, (m', kd', n', c', s')) ∧ CX m' kd' ∧ JS m' kd' n' ∧ CU (zpu um) (zpU um U A) m' kd' ∧ CV SV m' kd' ∧ RC A m' kd' 3 ∧ zfx m kd m' kd' ∧ (∀ i, m' 65 i = if i = 0 then m 65 0 + 1 else m 65 i) ∧ (c' : Int) + 30 * znull m' = c + 30 * znull m ∧ (s' : Int) + 2271 * znull m' = s + 2271 * znull m ∧ n ≤ n' ∧ c ≤ c' ∧ s ≤ s' := by
  obtain ⟨x0, x1, ⟨x63, x64, x640, x641, x65, x66⟩, x3, x33, xm33⟩ := id hX
  obtain ⟨j1, j2, j3, j4, j5, j6, j7⟩ := id hJ
  obtain ⟨u1, u2, u3, u4⟩ := id hU
  have q65 : ∀ x, x ≠ 65 → qa_up m 65 0 (m 65 0 + 1) x = m x := fun x hx => by
    funext i
    exact qa_up_no _ (fun z => hx z.1)
  have qa : ∀ i, qa_up m 65 0 (m 65 0 + 1) 65 i = if i = 0 then m 65 0 + 1 else m 65 i := fun i => by
    unfold qa_up
    simp
  have e9 : ∀ e, kd e = (9, 0) → e ≠ 65 ∧ e ≠ 64 ∧ e ≠ 66 := fun e he => ⟨fun z => (by rw [z, x65] at he; cases he), fun z => (by rw [z, x64] at he; cases he), fun z => (by rw [z, x66] at he; cases he)⟩
  have hX1 : CX (qa_up m 65 0 (m 65 0 + 1)) kd := by
    refine ⟨by rw [q65 0 (by decide)]; exact x0, by rw [q65 1 (by decide)]; exact x1, ⟨x63, x64, by rw [q65 64 (by decide)]; exact x640, by rw [q65 64 (by decide)]; exact x641, x65, x66⟩, x3, x33, MS_keep xm33 (fun c a b => q65 c (by omega))⟩
  have hJ1 : JS (qa_up m 65 0 (m 65 0 + 1)) kd n := JS_keep hJ (fun c hc => q65 c (by omega)) (q65 66 (by decide)) (q65 63 (by decide))
  have hC1 : RC A (qa_up m 65 0 (m 65 0 + 1)) kd 3 := RC_keep hC (fun c a b => q65 c (by omega)) (fun e he => ⟨q65 e (e9 e he).1, rfl⟩)
  have hU1 : CU um U (qa_up m 65 0 (m 65 0 + 1)) kd := by
    refine ⟨by rw [q65 64 (by decide)]; exact u1, u2, u3, fun k k1 k2 => ?_⟩
    rw [q65 66 (by decide)]
    obtain ⟨v1, v2⟩ := u4 k k1 k2
    rcases j1 k k1 (by omega) with h | h
    · exact absurd h v1
    · exact ⟨v1, RC_93 v2 h (fun c hc => q65 c (by omega)) (fun e he => q65 e (e9 e he).1)⟩
  have hV1 : CV SV (qa_up m 65 0 (m 65 0 + 1)) kd := by
    intro i a b
    rw [q65 63 (by decide)]
    intro hne
    rcases j2 i a b with h | h
    · exact absurd h hne
    · exact RC_93 (hV i a b hne) h (fun c hc => q65 c (by omega)) (fun e he => q65 e (e9 e he).1)
  have zn1 : znull (qa_up m 65 0 (m 65 0 + 1)) = znull m := by
    unfold znull
    rw [q65 66 (by decide), q65 63 (by decide)]
  have fx1 : zfx m kd (qa_up m 65 0 (m 65 0 + 1)) kd := fun x hx => ⟨q65 x (fun z => by
    rw [z, x65] at hx
    rcases hx with h | h | h | h | h | h
    · omega
    · omega
    · omega
    · omega
    · cases h
    · exact absurd h (by decide)), rfl⟩
  have fxt : ∀ {m1 m2 : Int → Int → Int} {k1 k2 : Int → Nat × Int}, zfx m kd m1 k1 → zfx m1 k1 m2 k2 → zfx m kd m2 k2 := fun {m1 m2 k1 k2} h1 h2 x hx => by
    obtain ⟨a1, a2⟩ := h1 x hx
    obtain ⟨b1, b2⟩ := h2 x (by rw [a2]; exact hx)
    exact ⟨b1.trans a1, b2.trans a2⟩
  by_cases h8 : um = 8
  ·
    subst h8
    generalize hm1 : qa_up m 65 0 (m 65 0 + 1) = m1 at *
    have u64 := hU1.1
    have hf := c_forgetOldest (w := (n, c, s)) hX1 hJ1 (by omega)
    have g66 : ∀ i, 0 ≤ i → i < 7 → zfg m1 66 i = m1 66 (i + 1) := fun i a b => by
      unfold zfg
      rw [if_pos ⟨rfl, a, b⟩]
    have g67 : zfg m1 66 7 = m1 66 0 := by
      unfold zfg
      rw [if_neg (by omega), if_pos ⟨rfl, rfl⟩]
    have gc : ∀ x, x ≠ 66 → x ≠ 64 → zfg m1 x = m1 x := fun x a b => by
      funext i
      unfold zfg
      rw [if_neg (fun z => a z.1), if_neg (fun z => a z.1), if_neg (fun z => b z.1)]
    have g64 : ∀ i, i ≠ 2 → zfg m1 64 i = m1 64 i := fun i hi => by
      unfold zfg
      rw [if_neg (by omega), if_neg (by omega), if_neg (fun z => hi z.2)]
    have g642 : zfg m1 64 2 = 7 := by
      unfold zfg
      rw [if_neg (by omega), if_neg (by omega), if_pos ⟨rfl, rfl⟩]
      omega
    obtain ⟨y0, y1, ⟨y63, y64, y640, y641, y65, y66⟩, y3, y33, ym33⟩ := id hX1
    obtain ⟨i1, i2, i3, i4, i5, i6, i7⟩ := id hJ1
    have hO : ∀ S', JO m1 kd n S' → JO (zfg m1) kd n S' := fun S' h => ⟨h.1, h.2.1, h.2.2.1, MS_keep h.2.2.2 (fun c a b => gc c (by have := h.1; omega) (by have := h.1; omega))⟩
    have sh : ∀ i, 0 ≤ i → i < 8 → ∃ j, 0 ≤ j ∧ j < 8 ∧ zfg m1 66 i = m1 66 j ∧ j = (if i = 7 then 0 else i + 1) := fun i a b => by
      by_cases e : i = 7
      · exact ⟨0, by decide, by decide, by rw [e, g67], by rw [if_pos e]⟩
      · exact ⟨i + 1, by omega, by omega, g66 i a (by omega), by rw [if_neg e]⟩
    have hX2 : CX (zfg m1) kd := by
      refine ⟨by rw [gc 0 (by decide) (by decide)]; exact y0, by rw [gc 1 (by decide) (by decide)]; exact y1, ⟨y63, y64, by rw [g64 0 (by decide)]; exact y640, by rw [g64 1 (by decide)]; exact y641, y65, y66⟩, y3, y33, MS_keep ym33 (fun c a b => gc c (by omega) (by omega))⟩
    have hJ2 : JS (zfg m1) kd n := by
      refine ⟨fun i a b => ?_, fun i a b => ?_, fun i j a b c d e f => ?_, fun i j a b c d e => ?_, ?_, i6, i7⟩
      · obtain ⟨j, a1, a2, a3, -⟩ := sh i a b
        rw [a3]; exact (i1 j a1 a2).imp id (hO _)
      · rw [gc 63 (by decide) (by decide)]; exact (i2 i a b).imp id (hO _)
      · obtain ⟨k, a1, a2, a3, a4⟩ := sh i a b
        obtain ⟨k', b1, b2, b3, b4⟩ := sh j c d
        rw [a3] at f ⊢
        rw [b3]
        refine i3 k k' a1 a2 b1 b2 ?_ f
        rw [a4, b4]
        split <;> split <;> omega
      · obtain ⟨k, a1, a2, a3, a4⟩ := sh i a b
        rw [a3] at e ⊢
        rw [gc 63 (by decide) (by decide)]
        exact i4 k j a1 a2 c d e
      · rw [gc 63 (by decide) (by decide)]; exact i5
    have hU2 : CU 7 (fun k => U (k + 1)) (zfg m1) kd := by
      refine ⟨g642, by decide, by decide, fun k k1 k2 => ?_⟩
      obtain ⟨v1, v2⟩ := hU1.2.2.2 (k + 1) (by omega) (by omega)
      rw [g66 k k1 k2]
      rcases i1 (k + 1) (by omega) (by omega) with h | h
      · exact absurd h v1
      · exact ⟨v1, RC_93 v2 h (fun c hc => gc c (by omega) (by omega)) (fun e he => gc e (e9 e he).2.2 (e9 e he).2.1)⟩
    have hV2 : CV SV (zfg m1) kd := by
      intro i a b
      rw [gc 63 (by decide) (by decide)]
      intro hne
      rcases i2 i a b with h | h
      · exact absurd h hne
      · exact RC_93 (hV1 i a b hne) h (fun c hc => gc c (by omega) (by omega)) (fun e he => gc e (e9 e he).2.2 (e9 e he).2.1)
    have hC2 : RC A (zfg m1) kd 3 := RC_keep hC1 (fun c a b => gc c (by omega) (by omega)) (fun e he => ⟨gc e (e9 e he).2.2 (e9 e he).2.1, rfl⟩)
    have zn2 : znull (zfg m1) = znull m1 := by
      unfold znull
      rw [gc 63 (by decide) (by decide)]
      simp only [zsum, zsf]
      simp only [g66 0 (by decide) (by decide), g66 (0 + 1) (by decide) (by decide), g66 (0 + 1 + 1) (by decide) (by decide), g66 (0 + 1 + 1 + 1) (by decide) (by decide), g66 (0 + 1 + 1 + 1 + 1) (by decide) (by decide), g66 (0 + 1 + 1 + 1 + 1 + 1) (by decide) (by decide), g66 (0 + 1 + 1 + 1 + 1 + 1 + 1) (by decide) (by decide), show (0 + 1 + 1 + 1 + 1 + 1 + 1 + 1 : Int) = 7 from rfl, g67]
      omega
    have fx2 : zfx m1 kd (zfg m1) kd := fun x hx => ⟨gc x (fun z => by
      rw [z, x66] at hx
      rcases hx with h | h | h | h | h | h
      · omega
      · omega
      · omega
      · omega
      · cases h
      · exact absurd h (by decide)) (fun z => by
      rw [z, x64] at hx
      rcases hx with h | h | h | h | h | h
      · omega
      · omega
      · omega
      · omega
      · cases h
      · exact absurd h (by decide)), rfl⟩
    obtain ⟨m', kd', n', c', s', k1, k2, k3, k4, k5, k6, k7, k8, k9, k10, k11, k12, k13⟩ := c_begin1 (c := c) (s := s) hX2 hJ2 hU2 (by decide) hV2 hC2 hW (9, 0)
    refine ⟨m', kd', n', c', s', ?_, k2, k3, ?_, k5, k6, fxt (fxt fx1 fx2) k7, fun i => ?_, by rw [k9, zn2, zn1], by rw [k10, zn2, zn1], k11, k12, k13⟩
    · unfold f_X1_begin
      refine qa_fn_eq ?_ (by simp; exact ⟨k11, k12, k13⟩)
      have t2 : m1 64 2 = 8 := u64
      rw [← hm1] at t2 hf
      rw [← hm1] at k1
      have t64 : m 64 2 = 8 := u1
      simp (disch := omega) [ev_X1_begin_0, ev_X1_begin_2, ev_X1_begin_3, ev_X1_begin_4, B_X1_begin_0, B_X1_begin_1, B_X1_begin_2, B_X1_begin_3, B_X1_begin_4, x_const, x_iadd, x_isub, x_imul, x_idiv, x_irem, x_ineg, x_dup, x_dup_x1, x_dup2, x_pop, x_goto, x_ifeq, x_ifne, x_iflt, x_ifge, x_ifgt, x_ifle, x_cmpeq, x_cmpne, x_cmplt, x_cmpge, x_cmpgt, x_cmple, x_null, x_nonnull, x_acmpeq, x_acmpne, x_get, x_put, x_putz, x_ald, x_ast, x_bast, x_zast, x_aast, x_alen, x_obj, x_ret, x_retz, x_vret, x_max, x_min, x_copy, x_i2l, qg_none, qg_inl, qg_inr, qg_ite, xr1, xr0, xrE, xri, xl0, xl1, xl2, xl3, xl4, xl5, xl6, xl7, xl8, xl9, xl10, xs0, xs1, xs2, xs3, xs4, xs5, xs6, xs7, xs8, xs9, xs10, xi0, xi1, xi2, xi3, xi4, xi5, xi6, xi7, xi8, xi9, xi10, xc0, xc1, xc2, xc3, xc4, xc5, xc6, xc7, xv1, xv2, xv3, xv4, xv5, xv6, xv7, dT_le, dF_le, dT_lt, dF_lt, dT_eq, dF_eq, qa_up_hit, qa_up_no, x64, x640, x641, x65, x66, t64, hf, k1]
    · have e : zpU 8 U A = fun k => if k = 7 then A else (fun k => U (k + 1)) k := by
        funext k
        unfold zpU
        rw [if_pos rfl]
      have e2 : zpu 8 = 7 + 1 := rfl
      rw [e, e2]
      exact k4
    · rw [k8, gc 65 (by decide) (by decide)]
      exact qa i
  · obtain ⟨m', kd', n', c', s', k1, k2, k3, k4, k5, k6, k7, k8, k9, k10, k11, k12, k13⟩ := c_begin1 (c := c) (s := s) hX1 hJ1 hU1 (by omega) hV1 hC1 hW (9, 0)
    refine ⟨m', kd', n', c', s', ?_, k2, k3, ?_, k5, k6, fxt fx1 k7, fun i => by rw [k8]; exact qa i, by rw [k9, zn1], by rw [k10, zn1], k11, k12, k13⟩
    · unfold f_X1_begin
      refine qa_fn_eq ?_ (by simp; exact ⟨k11, k12, k13⟩)
      simp (disch := omega) [ev_X1_begin_0, ev_X1_begin_2, ev_X1_begin_3, ev_X1_begin_4, B_X1_begin_0, B_X1_begin_1, B_X1_begin_2, B_X1_begin_3, B_X1_begin_4, x_const, x_iadd, x_isub, x_imul, x_idiv, x_irem, x_ineg, x_dup, x_dup_x1, x_dup2, x_pop, x_goto, x_ifeq, x_ifne, x_iflt, x_ifge, x_ifgt, x_ifle, x_cmpeq, x_cmpne, x_cmplt, x_cmpge, x_cmpgt, x_cmple, x_null, x_nonnull, x_acmpeq, x_acmpne, x_get, x_put, x_putz, x_ald, x_ast, x_bast, x_zast, x_aast, x_alen, x_obj, x_ret, x_retz, x_vret, x_max, x_min, x_copy, x_i2l, qg_none, qg_inl, qg_inr, qg_ite, xr1, xr0, xrE, xri, xl0, xl1, xl2, xl3, xl4, xl5, xl6, xl7, xl8, xl9, xl10, xs0, xs1, xs2, xs3, xs4, xs5, xs6, xs7, xs8, xs9, xs10, xi0, xi1, xi2, xi3, xi4, xi5, xi6, xi7, xi8, xi9, xi10, xc0, xc1, xc2, xc3, xc4, xc5, xc6, xc7, xv1, xv2, xv3, xv4, xv5, xv6, xv7, dT_le, dF_le, dT_lt, dF_lt, dT_eq, dF_eq, qa_up_hit, qa_up_no, x64, x640, x641, x65, x66, u1, k1]
    · have e : zpU um U A = fun k => if k = um then A else U k := by
        funext k
        unfold zpU
        rw [if_neg h8]
      have e2 : zpu um = um + 1 := if_neg h8
      rw [e, e2]
      exact k4
