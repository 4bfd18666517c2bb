def CS (um : Int) (U SV : Int → zA) (A : zA) (m : Int → Int → Int) (kd : Int → Nat × Int) (n S : Int) : Prop := S = 3 ∧ CX m kd ∧ JS m kd n ∧ CU um U m kd ∧ CV SV m kd ∧ RC A m kd S
theorem CS.f {um : Int} {U SV : Int → zA} {A : zA} {m : Int → Int → Int} {kd : Int → Nat × Int} {n S : Int} (h : CS um U SV A m kd n S) : KS kd S ∧ RC A m kd S ∧ kd 0 = (14, 0) ∧ m 0 1 = S ∧ m 0 4 = 64 ∧ kd 64 = (5, 0) ∧ m 0 0 = 1 ∧ kd 1 = (11, 0) ∧ m 64 0 = 65 ∧ kd 65 = (101, 11) := by
  obtain ⟨h1, h2, h3, h4, h5, h6⟩ := h
  subst h1
  exact ⟨h2.2.2.2.1, h6, h2.1.1, h2.1.2.2.1, h2.1.2.2.2.2.2.1, h2.2.2.1.2.1, h2.1.2.1, h2.2.1.1, h2.2.2.1.2.2.1, h2.2.2.1.2.2.2.2.1⟩
theorem c_begS {m : Int → Int → Int} {kd : Int → Nat × Int} {n c s : Nat} {um S : Int} {U SV : Int → zA} {A : zA} {M : Int} (hS : CS um U SV A m kd n S) (hW : zW M A) (ha : 0 ≤ m 65 0 ∧ m 65 0 < 100000000) : ∃ m' kd' n' c' s', f_X1_begin [(1, 64), (1, S)] (m, kd, n, c, s) = some (.inl none, (m', kd', n', c', s')) ∧ CS (zpu um) (zpU um U A) SV A m' kd' n' S ∧ zfx m kd m' kd' ∧ (∀ i, m' 65 i = if i = 0 then m 65 0 + 1 else m 65 i) ∧ (c' : Int) + 30 * znull m' = c + 30 * znull m ∧ (s' : Int) + 2271 * znull m' = s + 2271 * znull m ∧ n ≤ n' ∧ c ≤ c' ∧ s ≤ s' := by
  obtain ⟨rfl, h2, h3, h4, h5, h6⟩ := hS
  obtain ⟨m', kd', n', c', s', k1, k2, k3, k4, k5, k6, k7, k8, k9⟩ := c_begin (c := c) (s := s) h2 h3 h4 h5 h6 hW ha
  exact ⟨m', kd', n', c', s', k1, ⟨rfl, k2, k3, k4, k5, k6⟩, k7, k8, k9⟩
theorem CS_now {um : Int} {U SV : Int → zA} {A A' : zA} {m m' : Int → Int → Int} {kd : Int → Nat × Int} {n S : Int} (hS : CS um U SV A m kd n S) (hf : zfr m m' S) (hC : RC A' m' kd S) : CS um U SV A' m' kd n S ∧ zfx m kd m' kd ∧ m' 65 = m 65 ∧ znull m' = znull m := by
  obtain ⟨rfl, h2, h3, h4, h5, h6⟩ := hS
  obtain ⟨x0, x1, ⟨x63, x64, x640, x641, x65, x66⟩, x3, x33, xm33⟩ := id h2
  have lo : ∀ c, c < 3 ∨ 33 ≤ c → m' c = m c := fun c hc => hf c (by omega)
  have en : ∀ e, kd e = (9, 0) → m' e = m e := fun e he => hf e (x3.entry he)
  refine ⟨⟨rfl, ⟨?_, ?_, ⟨x63, x64, ?_, ?_, x65, x66⟩, x3, x33, ?_⟩, ?_, ⟨?_, h4.2.1, h4.2.2.1, fun k k1 k2 => ?_⟩, fun i a b => ?_, hC⟩, ?_, lo 65 (by decide), ?_⟩
  · rw [lo 0 (by decide)]; exact x0
  · rw [lo 1 (by decide)]; exact x1
  · rw [lo 64 (by decide)]; exact x640
  · rw [lo 64 (by decide)]; exact x641
  · exact MS_keep xm33 (fun c a b => lo c (by omega))
  · exact JS_keep h3 (fun c hc => lo c (by omega)) (lo 66 (by decide)) (lo 63 (by decide))
  · rw [lo 64 (by decide)]; exact h4.1
  · rw [lo 66 (by decide)]
    obtain ⟨v1, v2⟩ := h4.2.2.2 k k1 k2
    rcases h3.1 k k1 (by have := h4.2.2.1; omega) with h | h
    · exact absurd h v1
    · exact ⟨v1, RC_93 v2 h (fun c hc => lo c (by omega)) en⟩
  · rw [lo 63 (by decide)]
    intro hne
    rcases h3.2.1 i a b with h | h
    · exact absurd h hne
    · exact RC_93 (h5 i a b hne) h (fun c hc => lo c (by omega)) en
  · intro c hc
    refine ⟨?_, rfl⟩
    rcases hc with h | h | h | h | h | h
    · exact lo c (by omega)
    · exact lo c (by omega)
    · exact lo c (by omega)
    · exact lo c (by omega)
    · exact en c h
    · refine hf c ?_
      apply Classical.byContradiction
      intro hcc
      obtain ⟨kN, kS, kC, kV, kW, kB, kE, kR, kD, kL⟩ := id x3
      have h0 : c = 3 ∨ c = 3 + 1 ∨ c = 3 + 2 ∨ c = 3 + 3 ∨ (3 + 4 ≤ c ∧ c < 3 + 12) ∨ (3 + 12 ≤ c ∧ c < 3 + 30) := by omega
      rcases h0 with e | e | e | e | h0 | h0
      · rw [e, kS] at h; exact absurd h (by decide)
      · rw [e, kC] at h; exact absurd h (by decide)
      · rw [e, kV] at h; exact absurd h (by decide)
      · rw [e, kW] at h; exact absurd h (by decide)
      · have : c = 3 + 4 + 2 * ((c - 3 - 4) / 2) ∨ c = 3 + 5 + 2 * ((c - 3 - 4) / 2) := by omega
        rcases this with q | q <;> rw [q] at h
        · rw [kB _ (by omega) (by omega)] at h; exact absurd h (by decide)
        · rw [kE _ (by omega) (by omega)] at h; exact absurd h (by decide)
      · have : c = 3 + 12 + 3 * ((c - 3 - 12) / 3) ∨ c = 3 + 13 + 3 * ((c - 3 - 12) / 3) ∨ c = 3 + 14 + 3 * ((c - 3 - 12) / 3) := by omega
        rcases this with q | q | q <;> rw [q] at h
        · rw [kR _ (by omega) (by omega)] at h; exact absurd h (by decide)
        · rw [kD _ (by omega) (by omega)] at h; exact absurd h (by decide)
        · rw [kL _ (by omega) (by omega)] at h; exact absurd h (by decide)
  · unfold znull
    rw [lo 66 (by decide), lo 63 (by decide)]
theorem zfx.trans {m m1 m2 : Int → Int → Int} {kd k1 k2 : Int → Nat × Int} (h1 : zfx m kd m1 k1) (h2 : zfx m1 k1 m2 k2) : zfx m kd m2 k2 := fun x hx => by
  obtain ⟨a1, a2⟩ := h1 x hx
  obtain ⟨b1, b2⟩ := h2 x (by rw [a2]; exact hx)
  exact ⟨b1.trans a1, b2.trans a2⟩
theorem c_refuse {m : Int → Int → Int} {kd : Int → Nat × Int} {w : Nat × Nat × Nat} {r : Int} (x64 : kd 64 = (5, 0)) (x640 : m 64 0 = 65) (x65 : kd 65 = (101, 11)) (hr : 0 ≤ r ∧ r ≤ 10) (ha : 0 ≤ m 65 r ∧ m 65 r < 100000000) : f_X1_refuse [(1, 64), (0, r)] (m, kd, w) = some (.inl (some (0, -10 - r)), (qa_up m 65 r (m 65 r + 1), kd, w)) := by
  unfold f_X1_refuse
  refine qa_fn_eq ?_ (by simp)
  simp (disch := omega) [ev_X1_refuse_0, ev_X1_refuse_1, B_X1_refuse_0, B_X1_refuse_1, x_const, x_iadd, x_isub, x_imul, x_idiv, x_irem, x_ineg, x_dup, x_dup_x1, x_dup2, x_pop, x_goto, x_ifeq, x_ifne, x_iflt, x_ifge, x_ifgt, x_ifle, x_cmpeq, x_cmpne, x_cmplt, x_cmpge, x_cmpgt, x_cmple, x_null, x_nonnull, x_acmpeq, x_acmpne, x_get, x_put, x_putz, x_ald, x_ast, x_bast, x_zast, x_aast, x_alen, x_obj, x_ret, x_retz, x_vret, x_max, x_min, x_copy, x_i2l, qg_none, qg_inl, qg_inr, qg_ite, xr1, xr0, xrE, xri, xl0, xl1, xl2, xl3, xl4, xl5, xl6, xl7, xl8, xl9, xl10, xs0, xs1, xs2, xs3, xs4, xs5, xs6, xs7, xs8, xs9, xs10, xi0, xi1, xi2, xi3, xi4, xi5, xi6, xi7, xi8, xi9, xi10, xc0, xc1, xc2, xc3, xc4, xc5, xc6, xc7, xv1, xv2, xv3, xv4, xv5, xv6, xv7, dT_le, dF_le, dT_lt, dF_lt, dT_eq, dF_eq, qa_up_hit, qa_up_no, x64, x640, x65]
theorem m_refuses {m : Int → Int → Int} {kd : Int → Nat × Int} {w : Nat × Nat × Nat} (hK : KM kd) (hR : RM m) {r : Int} (hr : 0 ≤ r ∧ r ≤ 10) (ha : 0 ≤ m 84 r ∧ m 84 r < 100000000) : f_X12_refuses [(1, 77), (0, r)] (m, kd, w) = some (.inl (some (0, -10 - r)), (qa_up m 84 r (m 84 r + 1), kd, w)) := by
  obtain ⟨k77, k78, k79, k80, k81, k82, k83, k84, k85, k86, k87, k88, k89, k90⟩ := id hK
  obtain ⟨r1, r2, r3, r4, r6, r7, r8, r12, r13, r15, r23, r25, r26⟩ := id hR
  unfold f_X12_refuses
  refine qa_fn_eq ?_ (by simp)
  simp (disch := omega) [ev_X12_refuses_0, B_X12_refuses_0, x_const, x_iadd, x_isub, x_imul, x_idiv, x_irem, x_ineg, x_dup, x_dup_x1, x_dup2, x_pop, x_goto, x_ifeq, x_ifne, x_iflt, x_ifge, x_ifgt, x_ifle, x_cmpeq, x_cmpne, x_cmplt, x_cmpge, x_cmpgt, x_cmple, x_null, x_nonnull, x_acmpeq, x_acmpne, x_get, x_put, x_putz, x_ald, x_ast, x_bast, x_zast, x_aast, x_alen, x_obj, x_ret, x_retz, x_vret, x_max, x_min, x_copy, x_i2l, qg_none, qg_inl, qg_inr, qg_ite, xr1, xr0, xrE, xri, xl0, xl1, xl2, xl3, xl4, xl5, xl6, xl7, xl8, xl9, xl10, xs0, xs1, xs2, xs3, xs4, xs5, xs6, xs7, xs8, xs9, xs10, xi0, xi1, xi2, xi3, xi4, xi5, xi6, xi7, xi8, xi9, xi10, xc0, xc1, xc2, xc3, xc4, xc5, xc6, xc7, xv1, xv2, xv3, xv4, xv5, xv6, xv7, dT_le, dF_le, dT_lt, dF_lt, dT_eq, dF_eq, qa_up_hit, qa_up_no, k77, k84, r8]
theorem CS_refuse {um : Int} {U SV : Int → zA} {A : zA} {m : Int → Int → Int} {kd : Int → Nat × Int} {n S r v : Int} (hS : CS um U SV A m kd n S) : CS um U SV A (qa_up m 65 r v) kd n S ∧ zfx m kd (qa_up m 65 r v) kd ∧ znull (qa_up m 65 r v) = znull m := by
  obtain ⟨rfl, h2, h3, h4, h5, h6⟩ := hS
  obtain ⟨x0, x1, ⟨x63, x64, x640, x641, x65, x66⟩, x3, x33, xm33⟩ := id h2
  have lo : ∀ c, c ≠ 65 → qa_up m 65 r v c = m c := fun c hc => by
    funext i
    exact qa_up_no _ (fun z => hc z.1)
  have e9 : ∀ e, kd e = (9, 0) → e ≠ 65 := fun e he z => by
    rw [z, x65] at he
    cases he
  refine ⟨⟨rfl, ⟨?_, ?_, ⟨x63, x64, ?_, ?_, x65, x66⟩, x3, x33, ?_⟩, ?_, ⟨?_, h4.2.1, h4.2.2.1, fun k k1 k2 => ?_⟩, fun i a b => ?_, ?_⟩, ?_, ?_⟩
  · rw [lo 0 (by decide)]; exact x0
  · rw [lo 1 (by decide)]; exact x1
  · rw [lo 64 (by decide)]; exact x640
  · rw [lo 64 (by decide)]; exact x641
  · exact MS_keep xm33 (fun c a b => lo c (by omega))
  · exact JS_keep h3 (fun c hc => lo c (by omega)) (lo 66 (by decide)) (lo 63 (by decide))
  · rw [lo 64 (by decide)]; exact h4.1
  · rw [lo 66 (by decide)]
    obtain ⟨v1, v2⟩ := h4.2.2.2 k k1 k2
    rcases h3.1 k k1 (by have := h4.2.2.1; omega) with h | h
    · exact absurd h v1
    · exact ⟨v1, RC_93 v2 h (fun c hc => lo c (by omega)) (fun e he => lo e (e9 e he))⟩
  · rw [lo 63 (by decide)]
    intro hne
    rcases h3.2.1 i a b with h | h
    · exact absurd h hne
    · exact RC_93 (h5 i a b hne) h (fun c hc => lo c (by omega)) (fun e he => lo e (e9 e he))
  · exact RC_keep h6 (fun c a b => lo c (by omega)) (fun e he => ⟨lo e (e9 e he), rfl⟩)
  · intro c hc
    refine ⟨lo c (fun z => ?_), rfl⟩
    rw [z, x65] at hc
    rcases hc with h | h | h | h | h | h
    · omega
    · omega
    · omega
    · omega
    · cases h
    · exact absurd h (by decide)
  · unfold znull
    rw [lo 66 (by decide), lo 63 (by decide)]
theorem CS_new {um : Int} {U SV : Int → zA} {A : zA} {m : Int → Int → Int} {kd : Int → Nat × Int} {n : Nat} {S : Int} {z : Int → Int} (hS : CS um U SV A m kd n S) : CS um U SV A (nm m n z) (nk kd n (9, 0)) ((n + 1 : Nat) : Int) S ∧ zfx m kd (nm m n z) (nk kd n (9, 0)) ∧ nm m n z 65 = m 65 ∧ znull (nm m n z) = znull m := by
  obtain ⟨rfl, h2, h3, h4, h5, h6⟩ := hS
  obtain ⟨x0, x1, ⟨x63, x64, x640, x641, x65, x66⟩, x3, x33, xm33⟩ := id h2
  obtain ⟨j1, j2, j3, j4, j5, j6, j7⟩ := id h3
  have lo : ∀ x : Int, x < n → nm m n z x = m x := fun x hx => nm_nof _ _ (by omega)
  have kl : ∀ x : Int, x < n → nk kd n (9, 0) x = kd x := fun x hx => nk_no _ _ (by omega)
  have lt : ∀ e, kd e ≠ (0, 0) → e < n := fun e he => by
    apply Classical.byContradiction
    intro hh
    exact he (j7 e (by omega))
  have en : ∀ e, kd e = (9, 0) → nm m n z e = m e ∧ nk kd n (9, 0) e = kd e := fun e he => by
    have := lt e (by rw [he]; decide)
    exact ⟨lo e this, kl e this⟩
  have hO : ∀ S', JO m kd n S' → JO (nm m n z) (nk kd n (9, 0)) ((n + 1 : Nat) : Int) S' := fun S' h => ⟨h.1, by have := h.2.1; push_cast; omega, KS_keep h.2.2.1 (fun x a b => kl x (by have := h.2.1; omega)) (by rw [kl _ (by omega)]; exact x3.1), MS_keep h.2.2.2 (fun x a b => lo x (by have := h.2.1; omega))⟩
  have hR : ∀ (A' : zA) (S' : Int), RC A' m kd S' → S' + 30 ≤ n → RC A' (nm m n z) (nk kd n (9, 0)) S' := fun A' S' h hn => RC_keep h (fun x a b => lo x (by omega)) en
  refine ⟨⟨rfl, ⟨?_, ?_, ⟨?_, ?_, ?_, ?_, ?_, ?_⟩, ?_, ?_, ?_⟩, ⟨?_, ?_, ?_, ?_, ?_, by push_cast; omega, ?_⟩, ⟨?_, h4.2.1, h4.2.2.1, fun k k1 k2 => ?_⟩, fun i a b => ?_, hR _ _ h6 (by omega)⟩, ?_, lo 65 (by omega), ?_⟩
  · rw [lo 0 (by omega), kl 0 (by omega)]; exact x0
  · rw [lo 1 (by omega), kl 1 (by omega), kl 2 (by omega)]; exact x1
  · rw [kl _ (by omega)]; exact x63
  · rw [kl _ (by omega)]; exact x64
  · rw [lo 64 (by omega)]; exact x640
  · rw [lo 64 (by omega)]; exact x641
  · rw [kl _ (by omega)]; exact x65
  · rw [kl _ (by omega)]; exact x66
  · exact KS_keep x3 (fun x a b => kl x (by omega)) (by rw [kl _ (by omega)]; exact x3.1)
  · exact KS_keep x33 (fun x a b => kl x (by omega)) (by rw [kl _ (by omega)]; exact x3.1)
  · exact MS_keep xm33 (fun x a b => lo x (by omega))
  · intro i a b
    rw [lo 66 (by omega)]; exact (j1 i a b).imp id (hO _)
  · intro i a b
    rw [lo 63 (by omega)]; exact (j2 i a b).imp id (hO _)
  · rw [lo 66 (by omega)]; exact j3
  · rw [lo 66 (by omega), lo 63 (by omega)]; exact j4
  · rw [lo 63 (by omega)]; exact j5
  · intro x hx
    rw [nk_no _ _ (by omega)]
    exact j7 x (by omega)
  · rw [lo 64 (by omega)]; exact h4.1
  · rw [lo 66 (by omega)]
    obtain ⟨v1, v2⟩ := h4.2.2.2 k k1 k2
    rcases j1 k k1 (by have := h4.2.2.1; omega) with h | h
    · exact absurd h v1
    · exact ⟨v1, hR _ _ v2 h.2.1⟩
  · rw [lo 63 (by omega)]
    intro hne
    rcases j2 i a b with h | h
    · exact absurd h hne
    · exact hR _ _ (h5 i a b hne) h.2.1
  · intro c hc
    have : c < n := by
      rcases hc with h | h | h | h | h | h
      · omega
      · omega
      · omega
      · omega
      · exact lt c (by rw [h]; decide)
      · exact lt c (fun z => by rw [z] at h; exact absurd h (by decide))
    exact ⟨lo c this, kl c this⟩
  · unfold znull
    rw [lo 66 (by omega), lo 63 (by omega)]
