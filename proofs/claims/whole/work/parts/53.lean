theorem JO_apart {m : Int → Int → Int} {kd : Int → Nat × Int} {n S S' : Int} (h : JO m kd n S) (h' : KS kd S') (hne : S ≠ S') : zapart S S' := KS_apart h.2.2.1 h' hne
theorem c_begin4 {m : Int → Int → Int} {kd : Int → Nat × Int} {w : Nat × Nat × Nat} {n um : Int} {U SV : Int → zA} {A : zA} {M : Int} (hX : CX m kd) (hJ : JS m kd n) (hU : CU um U m kd) (hu7 : um ≤ 7) (hV : CV SV m kd) (hC : RC A m kd 3) (hW : zW M A) (hu : m 66 um ≠ -1) : ∃ m', qa_ev P_X1_begin 4 [(1, 64), (1, 3), (1, m 66 um)] [] (m, kd, w) = some (.inl none, (m', kd, w)) ∧ CX m' kd ∧ JS m' kd n ∧ CU (um + 1) (fun k => if k = um then A else U k) m' kd ∧ CV SV m' kd ∧ RC A m' kd 3 ∧ zfx m kd m' kd ∧ m' 65 = m 65 ∧ znull m' = znull m := by
  obtain ⟨x0, x1, ⟨x63, x64, x640, x641, x65, x66⟩, x3, x33, xm33⟩ := id hX
  obtain ⟨j1, j2, j3, j4, j5, j6, j7⟩ := id hJ
  obtain ⟨u1, u2, u3, u4⟩ := id hU
  have hO : JO m kd n (m 66 um) := by
    rcases j1 um u2 (by omega) with h | h
    · exact absurd h hu
    · exact h
  generalize huu : m 66 um = u at *
  have hO' := hO
  obtain ⟨o1, o2, o3, o4⟩ := hO'
  obtain ⟨m1, i1, i2, i3⟩ := c_copyS (w := w) o3 o4 x3 hC hW (KS_apart o3 x3 (by omega))
  have lo : ∀ c, c < 93 → m1 c = m c := fun c hc => i3 c (by omega)
  have en : ∀ e, kd e = (9, 0) → m1 e = m e := fun e he => i3 e (o3.entry he)
  have oth : ∀ S', KS kd S' → S' ≠ u → ∀ c, S' ≤ c → c < S' + 30 → qa_up m1 64 2 (um + 1) c = m c ∨ c = 64 := fun S' hS' hne c c1 c2 => by
    by_cases e : c = 64
    · exact Or.inr e
    · left
      funext i
      rw [qa_up_no _ (fun z => e z.1), i3 c (by have := KS_apart o3 hS' (Ne.symm hne); unfold zapart at this; omega)]
  have n64 : ∀ c, c ≠ 64 → qa_up m1 64 2 (um + 1) c = m1 c := fun c hc => by
    funext i
    exact qa_up_no _ (fun z => hc z.1)
  have far : ∀ S', KS kd S' → S' ≠ u → (∀ c, S' ≤ c → c < S' + 30 → c ≠ 64) → ∀ c, S' ≤ c → c < S' + 30 → qa_up m1 64 2 (um + 1) c = m c := fun S' hS' hne h64 c c1 c2 => by
    rcases oth S' hS' hne c c1 c2 with h | h
    · exact h
    · exact absurd h (h64 c c1 c2)
  have m66 : qa_up m1 64 2 (um + 1) 66 = m 66 := by rw [n64 _ (by decide), lo _ (by decide)]
  have m63 : qa_up m1 64 2 (um + 1) 63 = m 63 := by rw [n64 _ (by decide), lo _ (by decide)]
  have en' : ∀ e, kd e = (9, 0) → qa_up m1 64 2 (um + 1) e = m e ∧ kd e = kd e := fun e he => ⟨by rw [n64 e (fun z => by rw [z, x64] at he; cases he), en e he], rfl⟩
  have keepJO : ∀ S', JO m kd n S' → JO (qa_up m1 64 2 (um + 1)) kd n S' := fun S' h => by
    refine ⟨h.1, h.2.1, h.2.2.1, ?_⟩
    by_cases e : S' = u
    · rw [e]
      exact MS_keep i2.1 (fun c c1 c2 => n64 c (by omega))
    · exact MS_keep h.2.2.2 (far S' h.2.2.1 e (fun c c1 c2 => by have := h.1; omega))
  refine ⟨qa_up m1 64 2 (um + 1), ?_, ?_, ?_, ?_, ?_, ?_, ?_, ?_, ?_⟩
  · rw [ev_X1_begin_4]
    have t2 : m1 64 2 = um := by rw [lo 64 (by decide)]; exact u1
    simp (disch := omega) [ev_X1_begin_0, ev_X1_begin_1, ev_X1_begin_2, ev_X1_begin_3, B_X1_begin_0, B_X1_begin_1, B_X1_begin_2, B_X1_begin_3, B_X1_begin_4, x_const, x_iadd, x_isub, x_imul, x_idiv, x_irem, x_ineg, x_dup, x_dup_x1, x_dup2, x_pop, x_goto, x_ifeq, x_ifne, x_iflt, x_ifge, x_ifgt, x_ifle, x_cmpeq, x_cmpne, x_cmplt, x_cmpge, x_cmpgt, x_cmple, x_null, x_nonnull, x_acmpeq, x_acmpne, x_get, x_put, x_putz, x_ald, x_ast, x_bast, x_zast, x_aast, x_alen, x_obj, x_ret, x_retz, x_vret, x_max, x_min, x_copy, x_i2l, qg_none, qg_inl, qg_inr, qg_ite, xr1, xr0, xrE, xri, xl0, xl1, xl2, xl3, xl4, xl5, xl6, xl7, xl8, xl9, xl10, xs0, xs1, xs2, xs3, xs4, xs5, xs6, xs7, xs8, xs9, xs10, xi0, xi1, xi2, xi3, xi4, xi5, xi6, xi7, xi8, xi9, xi10, xc0, xc1, xc2, xc3, xc4, xc5, xc6, xc7, xv1, xv2, xv3, xv4, xv5, xv6, xv7, dT_le, dF_le, dT_lt, dF_lt, o3.2.1, x64, i1, t2]
  · refine ⟨?_, ?_, ⟨x63, x64, ?_, ?_, x65, x66⟩, x3, x33, ?_⟩
    · rw [n64 0 (by decide), lo 0 (by decide)]; exact x0
    · rw [n64 1 (by decide), lo 1 (by decide)]; exact x1
    · rw [qa_up_no _ (by omega), lo 64 (by decide)]; exact x640
    · rw [qa_up_no _ (by omega), lo 64 (by decide)]; exact x641
    · exact MS_keep xm33 (fun c c1 c2 => by rw [n64 c (by omega), lo c (by omega)])
  · refine ⟨fun i a b => ?_, fun i a b => ?_, fun i j a b c d e f => ?_, fun i j a b c d e => ?_, ?_, j6, j7⟩
    · rw [m66]; exact (j1 i a b).imp id (keepJO _)
    · rw [m63]; exact (j2 i a b).imp id (keepJO _)
    · rw [m66] at f ⊢; exact j3 i j a b c d e f
    · rw [m66] at e ⊢; rw [m63]; exact j4 i j a b c d e
    · rw [m63]; exact j5
  · refine ⟨qa_up_hit _ _ _ _, by omega, by omega, fun k k1 k2 => ?_⟩
    rw [m66]
    by_cases e : k = um
    · subst e
      rw [huu]
      refine ⟨hu, ?_⟩
      show RC (if k = k then A else U k) _ _ _
      rw [if_pos rfl]
      exact RC_keep i2 (fun c c1 c2 => n64 c (by omega)) (fun e he => ⟨by rw [n64 e (fun z => by rw [z, x64] at he; cases he)], rfl⟩)
    · obtain ⟨v1, v2⟩ := u4 k k1 (by omega)
      refine ⟨v1, ?_⟩
      show RC (if k = um then A else U k) _ _ _
      rw [if_neg e]
      have hk : JO m kd n (m 66 k) := by
        rcases j1 k k1 (by omega) with h | h
        · exact absurd h v1
        · exact h
      exact RC_keep v2 (far _ hk.2.2.1 (fun z => j3 k um k1 (by omega) u2 (by omega) e v1 (z.trans huu.symm)) (fun c c1 c2 => by have := hk.1; omega)) en'
  · intro i i1' i2'
    rw [m63]
    intro hne
    have hk : JO m kd n (m 63 i) := by
      rcases j2 i i1' i2' with h | h
      · exact absurd h hne
      · exact h
    exact RC_keep (hV i i1' i2' hne) (far _ hk.2.2.1 (fun z => j4 um i u2 (by omega) i1' i2' (by rw [huu]; exact hu) (huu.trans z.symm)) (fun c c1 c2 => by have := hk.1; omega)) en'
  · exact RC_keep hC (far 3 x3 (by omega) (fun c c1 c2 => by omega)) en'
  · intro c hc
    refine ⟨?_, rfl⟩
    have h64 : c ≠ 64 := by
      intro z
      rw [z] at hc
      rw [x64] at hc
      rcases hc with h | h | h | h | h | h
      · omega
      · omega
      · omega
      · omega
      · cases h
      · exact absurd h (by decide)
    rw [n64 c h64]
    rcases hc with h | h | h | h | h | h
    · exact lo c (by omega)
    · exact lo c (by omega)
    · exact lo c (by omega)
    · exact lo c (by omega)
    · exact en c h
    · refine i3 c ?_
      apply Classical.byContradiction
      intro hcc
      obtain ⟨kN, kS, kC, kV, kW, kB, kE, kR, kD, kL⟩ := id o3
      have h0 : c = u ∨ c = u + 1 ∨ c = u + 2 ∨ c = u + 3 ∨ (u + 4 ≤ c ∧ c < u + 12) ∨ (u + 12 ≤ c ∧ c < u + 30) := by omega
      rcases h0 with e | e | e | e | h0 | h0
      · rw [e, kS] at h; exact absurd h (by decide)
      · rw [e, kC] at h; exact absurd h (by decide)
      · rw [e, kV] at h; exact absurd h (by decide)
      · rw [e, kW] at h; exact absurd h (by decide)
      · have : c = u + 4 + 2 * ((c - u - 4) / 2) ∨ c = u + 5 + 2 * ((c - u - 4) / 2) := by omega
        rcases this with q | q <;> rw [q] at h
        · rw [kB _ (by omega) (by omega)] at h; exact absurd h (by decide)
        · rw [kE _ (by omega) (by omega)] at h; exact absurd h (by decide)
      · have : c = u + 12 + 3 * ((c - u - 12) / 3) ∨ c = u + 13 + 3 * ((c - u - 12) / 3) ∨ c = u + 14 + 3 * ((c - u - 12) / 3) := by omega
        rcases this with q | q | q <;> rw [q] at h
        · rw [kR _ (by omega) (by omega)] at h; exact absurd h (by decide)
        · rw [kD _ (by omega) (by omega)] at h; exact absurd h (by decide)
        · rw [kL _ (by omega) (by omega)] at h; exact absurd h (by decide)
  · rw [n64 65 (by decide), lo 65 (by decide)]
  · unfold znull
    rw [m66, m63]
def zpu (um : Int) : Int := if um = 8 then 8 else um + 1
def zpU (um : Int) (U : Int → zA) (A : zA) : Int → zA := fun k => if um = 8 then (if k = 7 then A else U (k + 1)) else (if k = um then A else U k)
theorem znull_up {m m' : Int → Int → Int} {um v : Int} (hu : 0 ≤ um ∧ um < 8) (h66 : ∀ i, i ≠ um → m' 66 i = m 66 i) (h0 : m 66 um = -1) (hv : m' 66 um = v) (hv' : v ≠ -1) (h63 : m' 63 = m 63) : znull m' = znull m - 1 := by
  unfold znull
  rw [h63]
  have h := fun i => h66 i
  have : um = 0 ∨ um = 1 ∨ um = 2 ∨ um = 3 ∨ um = 4 ∨ um = 5 ∨ um = 6 ∨ um = 7 := by omega
  simp only [zsum, zsf]
  have e0 := h66 0
  have e1 := h66 1
  have e2 := h66 2
  have e3 := h66 3
  have e4 := h66 4
  have e5 := h66 5
  have e6 := h66 6
  have e7 := h66 7
  rcases this with rfl | rfl | rfl | rfl | rfl | rfl | rfl | rfl <;> simp at e0 e1 e2 e3 e4 e5 e6 e7 ⊢ <;> simp [*] <;> omega
theorem c_begin1 {m : Int → Int → Int} {kd : Int → Nat × Int} {n c s : Nat} {um : Int} {U SV : Int → zA} {A : zA} {M : Int} (hX : CX m kd) (hJ : JS m kd n) (hU : CU um U m kd) (hu7 : um ≤ 7) (hV : CV SV m kd) (hC : RC A m kd 3) (hW : zW M A) (l2 : qV) : ∃ m' kd' n' c' s', qa_ev P_X1_begin 1 [(1, 64), (1, 3), l2] [] (m, kd, n, c, s) = some (.inl none, (m', kd', n', c', s')) ∧ CX m' kd' ∧ JS m' kd' n' ∧ CU (um + 1) (fun k => if k = um then A else U k) m' kd' ∧ CV SV m' kd' ∧ RC A m' kd' 3 ∧ zfx m kd m' kd' ∧ m' 65 = m 65 ∧ (c' : Int) + 30 * znull m' = c + 30 * znull m ∧ (s' : Int) + 2271 * znull m' = s + 2271 * znull m ∧ n ≤ n' ∧ c ≤ c' ∧ s ≤ s' := by
  obtain ⟨x0, x1, ⟨x63, x64, x640, x641, x65, x66⟩, x3, x33, xm33⟩ := id hX
  obtain ⟨j1, j2, j3, j4, j5, j6, j7⟩ := id hJ
  obtain ⟨u1, u2, u3, u4⟩ := id hU
  by_cases hu : m 66 um = -1
  ·
    have kn : ∀ x : Int, x < n → nk kd n (13, 0) x = kd x := fun x hx => nk_no _ _ (by omega)
    obtain ⟨m1, kd1, i1, i2, i3, i4, i5⟩ := c_initS (m := nm m n z_X9) (kd := nk kd n (13, 0)) (n := n + 1) (c := c + 1) (s := s + 5) (S := n) (by rw [kn _ (by omega)]; exact x3.1) (by omega) (by push_cast; rfl) (nk_hit _ _ _) ⟨by rw [nm_hit]; rfl, by rw [nm_hit]; rfl⟩
    have lo1 : ∀ x : Int, x < n → m1 x = m x := fun x hx => by rw [i4 x hx, nm_nof _ _ (by omega)]
    have kd1lo : ∀ x : Int, x < n → kd1 x = kd x := fun x hx => by rw [i5 x (by push_cast; omega), kn x hx]
    have m2lo : ∀ x : Int, x < n → x ≠ 66 → qa_up m1 66 um n x = m x := fun x hx hne => by
      funext i
      rw [qa_up_no _ (fun z => hne z.1), lo1 x hx]
    have m266 : ∀ i, i ≠ um → qa_up m1 66 um n 66 i = m 66 i := fun i hi => by rw [qa_up_no _ (fun z => hi z.2), lo1 66 (by omega)]
    have m2um : qa_up m1 66 um n 66 um = n := qa_up_hit _ _ _ _
    have m263 : qa_up m1 66 um n 63 = m 63 := m2lo 63 (by omega) (by decide)
    have en : ∀ e, kd e = (9, 0) → qa_up m1 66 um n e = m e ∧ kd1 e = kd e := fun e he => by
      have : e < n := by
        apply Classical.byContradiction
        intro hh
        rw [j7 e (by omega)] at he
        cases he
      exact ⟨m2lo e this (fun z => by rw [z, x66] at he; cases he), kd1lo e this⟩
    have hO : ∀ S', JO m kd n S' → JO (qa_up m1 66 um n) kd1 (((n + 1 : Nat) : Int) + 29) S' := fun S' h => by
      refine ⟨h.1, by have := h.2.1; push_cast; omega, KS_keep h.2.2.1 (fun x a b => kd1lo x (by have := h.2.1; omega)) (by rw [kd1lo _ (by omega)]; exact x3.1), MS_keep h.2.2.2 (fun x a b => m2lo x (by have := h.2.1; omega) (by have := h.1; omega))⟩
    have hOn : JO (qa_up m1 66 um n) kd1 (((n + 1 : Nat) : Int) + 29) n := ⟨j6, by push_cast; omega, i3, MS_keep i2.1 (fun x a b => by
      funext i
      exact qa_up_no _ (by omega))⟩
    have hltn : ∀ S', JO m kd n S' → S' < n := fun S' h => by have := h.2.1; omega
    have hC2 : ∀ (A' : zA) (S' : Int), RC A' m kd S' → S' + 30 ≤ n → (∀ x, S' ≤ x → x < S' + 30 → x ≠ 66) → RC A' (qa_up m1 66 um n) kd1 S' := fun A' S' h hn' h66 => RC_keep h (fun x a b => m2lo x (by omega) (h66 x a b)) en
    have hX2 : CX (qa_up m1 66 um n) kd1 := by
      refine ⟨?_, ?_, ⟨?_, ?_, ?_, ?_, ?_, ?_⟩, ?_, ?_, ?_⟩
      · rw [m2lo 0 (by omega) (by decide), kd1lo 0 (by omega)]; exact x0
      · rw [m2lo 1 (by omega) (by decide), kd1lo 1 (by omega), kd1lo 2 (by omega)]; exact x1
      · rw [kd1lo _ (by omega)]; exact x63
      · rw [kd1lo _ (by omega)]; exact x64
      · rw [m2lo 64 (by omega) (by decide)]; exact x640
      · rw [m2lo 64 (by omega) (by decide)]; exact x641
      · rw [kd1lo _ (by omega)]; exact x65
      · rw [kd1lo _ (by omega)]; exact x66
      · exact KS_keep x3 (fun x a b => kd1lo x (by omega)) (by rw [kd1lo _ (by omega)]; exact x3.1)
      · exact KS_keep x33 (fun x a b => kd1lo x (by omega)) (by rw [kd1lo _ (by omega)]; exact x3.1)
      · exact MS_keep xm33 (fun x a b => m2lo x (by omega) (by omega))
    have hJ2 : JS (qa_up m1 66 um n) kd1 (((n + 1 : Nat) : Int) + 29) := by
      refine ⟨fun i a b => ?_, fun i a b => ?_, fun i j a b c d e f => ?_, fun i j a b c d e => ?_, ?_, by push_cast; omega, fun x hx => ?_⟩
      · by_cases e : i = um
        · rw [e, m2um]; exact Or.inr hOn
        · rw [m266 i e]; exact (j1 i a b).imp id (hO _)
      · rw [m263]; exact (j2 i a b).imp id (hO _)
      · by_cases e1 : i = um
        · have e2 : j ≠ um := fun z => e (e1.trans z.symm)
          rw [e1, m2um, m266 j e2]
          intro hz
          rcases j1 j c d with q | q
          · rw [q] at hz; omega
          · have := hltn _ q; omega
        · rw [m266 i e1] at f ⊢
          by_cases e2 : j = um
          · rw [e2, m2um]
            intro hz
            rcases j1 i a b with q | q
            · exact f q
            · have := hltn _ q; omega
          · rw [m266 j e2]
            exact j3 i j a b c d e f
      · rw [m263]
        by_cases e1 : i = um
        · rw [e1, m2um]
          intro hz
          rcases j2 j c d with q | q
          · rw [q] at hz; omega
          · have := hltn _ q; omega
        · rw [m266 i e1] at e ⊢
          exact j4 i j a b c d e
      · rw [m263]; exact j5
      · rw [i5 x (by omega), nk_no _ _ (by omega)]
        exact j7 x (by push_cast at hx; omega)
    have hU2 : CU um U (qa_up m1 66 um n) kd1 := by
      refine ⟨by rw [m2lo 64 (by omega) (by decide)]; exact u1, u2, u3, fun k k1 k2 => ?_⟩
      obtain ⟨v1, v2⟩ := u4 k k1 k2
      rw [m266 k (by omega)]
      have hk : JO m kd n (m 66 k) := by
        rcases j1 k k1 (by omega) with h | h
        · exact absurd h v1
        · exact h
      exact ⟨v1, hC2 _ _ v2 hk.2.1 (fun x a b => by have := hk.1; omega)⟩
    have hV2 : CV SV (qa_up m1 66 um n) kd1 := by
      intro i a b
      rw [m263]
      intro hne
      have hk : JO m kd n (m 63 i) := by
        rcases j2 i a b with h | h
        · exact absurd h hne
        · exact h
      exact hC2 _ _ (hV i a b hne) hk.2.1 (fun x a b => by have := hk.1; omega)
    have hC3 := hC2 A 3 hC (by omega) (fun x a b => by omega)
    obtain ⟨m3, k1, k2, k3, k4, k5, k6, k7, k8, k9⟩ := c_begin4 (w := (n + 1 + 29, c + 1 + 29, s + 5 + 2266)) (um := um) hX2 hJ2 hU2 hu7 hV2 hC3 hW (by rw [m2um]; omega)
    rw [m2um] at k1
    have zn := znull_up (m := m) (m' := qa_up m1 66 um n) (um := um) (v := n) ⟨u2, by omega⟩ m266 hu m2um (by omega) m263
    refine ⟨m3, kd1, n + 1 + 29, c + 1 + 29, s + 5 + 2266, ?_, k2, by push_cast at k3 ⊢; exact k3, k4, k5, k6, ?_, ?_, ?_, ?_, by omega, by omega, by omega⟩
    · rw [ev_X1_begin_1]
      have t1 : m1 64 1 = 66 := by rw [lo1 64 (by omega)]; exact x641
      have t2 : m1 64 2 = um := by rw [lo1 64 (by omega)]; exact u1
      have q64 : kd1 64 = (5, 0) := by rw [kd1lo _ (by omega)]; exact x64
      have q66 : kd1 66 = (123, 8) := by rw [kd1lo _ (by omega)]; exact x66
      simp (disch := omega) [ev_X1_begin_0, ev_X1_begin_2, ev_X1_begin_3, B_X1_begin_0, B_X1_begin_1, B_X1_begin_2, B_X1_begin_3, B_X1_begin_4, x_const, x_iadd, x_isub, x_imul, x_idiv, x_irem, x_ineg, x_dup, x_dup_x1, x_dup2, x_pop, x_goto, x_ifeq, x_ifne, x_iflt, x_ifge, x_ifgt, x_ifle, x_cmpeq, x_cmpne, x_cmplt, x_cmpge, x_cmpgt, x_cmple, x_null, x_nonnull, x_acmpeq, x_acmpne, x_get, x_put, x_putz, x_ald, x_ast, x_bast, x_zast, x_aast, x_alen, x_obj, x_ret, x_retz, x_vret, x_max, x_min, x_copy, x_i2l, qg_none, qg_inl, qg_inr, qg_ite, xr1, xr0, xrE, xri, xl0, xl1, xl2, xl3, xl4, xl5, xl6, xl7, xl8, xl9, xl10, xs0, xs1, xs2, xs3, xs4, xs5, xs6, xs7, xs8, xs9, xs10, xi0, xi1, xi2, xi3, xi4, xi5, xi6, xi7, xi8, xi9, xi10, xc0, xc1, xc2, xc3, xc4, xc5, xc6, xc7, xv1, xv2, xv3, xv4, xv5, xv6, xv7, dT_le, dF_le, dT_lt, dF_lt, x_new, nk_hit, x64, x641, x66, u1, hu, i1, t1, t2, q64, q66, i3.2.1]
      exact k1
    · intro x hx
      have hxn : x < n := by
        apply Classical.byContradiction
        intro hh
        have := j7 x (by omega)
        rcases hx with h | h | h | h | h | h
        · omega
        · omega
        · omega
        · omega
        · rw [this] at h; cases h
        · rw [this] at h; exact absurd h (by decide)
      have h66 : x ≠ 66 := by
        intro z
        rw [z, x66] at hx
        rcases hx with h | h | h | h | h | h
        · omega
        · omega
        · omega
        · omega
        · cases h
        · exact absurd h (by decide)
      have q := k7 x (by rw [kd1lo x hxn]; exact hx)
      rw [q.1, kd1lo x hxn]
      exact ⟨m2lo x hxn h66, rfl⟩
    · rw [k8, m2lo 65 (by omega) (by decide)]
    · rw [k9, zn]; omega
    · rw [k9, zn]; omega
  · obtain ⟨m3, k1, k2, k3, k4, k5, k6, k7, k8, k9⟩ := c_begin4 (w := (n, c, s)) (um := um) hX hJ hU hu7 hV hC hW hu
    refine ⟨m3, kd, n, c, s, ?_, k2, k3, k4, k5, k6, k7, k8, by rw [k9], by rw [k9], Nat.le_refl _, Nat.le_refl _, Nat.le_refl _⟩
    rw [ev_X1_begin_1]
    have q : (kd (m 66 um)).1 = 13 ∨ True := Or.inr trivial
    simp (disch := omega) [ev_X1_begin_0, ev_X1_begin_2, ev_X1_begin_3, B_X1_begin_0, B_X1_begin_1, B_X1_begin_2, B_X1_begin_3, B_X1_begin_4, x_const, x_iadd, x_isub, x_imul, x_idiv, x_irem, x_ineg, x_dup, x_dup_x1, x_dup2, x_pop, x_goto, x_ifeq, x_ifne, x_iflt, x_ifge, x_ifgt, x_ifle, x_cmpeq, x_cmpne, x_cmplt, x_cmpge, x_cmpgt, x_cmple, x_null, x_nonnull, x_acmpeq, x_acmpne, x_get, x_put, x_putz, x_ald, x_ast, x_bast, x_zast, x_aast, x_alen, x_obj, x_ret, x_retz, x_vret, x_max, x_min, x_copy, x_i2l, qg_none, qg_inl, qg_inr, qg_ite, xr1, xr0, xrE, xri, xl0, xl1, xl2, xl3, xl4, xl5, xl6, xl7, xl8, xl9, xl10, xs0, xs1, xs2, xs3, xs4, xs5, xs6, xs7, xs8, xs9, xs10, xi0, xi1, xi2, xi3, xi4, xi5, xi6, xi7, xi8, xi9, xi10, xc0, xc1, xc2, xc3, xc4, xc5, xc6, xc7, xv1, xv2, xv3, xv4, xv5, xv6, xv7, dT_le, dF_le, dT_lt, dF_lt, x64, x641, x66, u1, hu, k1]
