theorem znull_up2 {m m' : Int → Int → Int} {i v : Int} (hi : 0 ≤ i ∧ i ≤ 1) (h63 : ∀ k, k ≠ i → m' 63 k = m 63 k) (h0 : m 63 i = -1) (hv : m' 63 i = v) (hv' : v ≠ -1) (h66 : m' 66 = m 66) : znull m' = znull m - 1 := by
  unfold znull
  rw [h66]
  have : i = 0 ∨ i = 1 := by omega
  simp only [zsum, zsf]
  have e0 := h63 0
  have e1 := h63 1
  rcases this with rfl | rfl <;> simp at e0 e1 ⊢ <;> simp [*] <;> omega
theorem c_saveNew {m : Int → Int → Int} {kd : Int → Nat × Int} {n c s : Nat} {um S : Int} {U SV : Int → zA} {A : zA} (hS : CS um U SV A m kd n S) {i : Int} (hi : 0 ≤ i ∧ i ≤ 1) (h0 : m 63 i = -1) : ∃ m1 kd1, f_X9_init [(1, (n : Int))] (nm m n z_X9, nk kd n (13, 0), n + 1, c + 1, s + 5) = some (.inl none, (m1, kd1, n + 1 + 29, c + 1 + 29, s + 5 + 2266)) ∧ CS um U (zSv SV i z00) A (qa_up m1 63 i n) kd1 ((n + 1 + 29 : Nat) : Int) S ∧ zfz m kd (qa_up m1 63 i n) kd1 ∧ qa_up m1 63 i n 65 = m 65 ∧ znull (qa_up m1 63 i n) = znull m - 1 ∧ (∀ x : Int, x < n → m1 x = m x ∧ kd1 x = kd x) ∧ (∀ k, k ≠ i → m1 63 k = m 63 k) ∧ (kd1 n).1 = 13 := by
  obtain ⟨rfl, hX, hJ, hU, hV, hC⟩ := hS
  obtain ⟨x0, x1, ⟨x63, x64, x640, x641, x65, x66⟩, x3, x33, xm33⟩ := id hX
  obtain ⟨j1, j2, j3, j4, j5, j6, j7⟩ := id hJ
  obtain ⟨u1, u2, u3, u4⟩ := id hU
  have kn : ∀ x : Int, x < n → nk kd n (13, 0) x = kd x := fun x hx => nk_no _ _ (by omega)
  obtain ⟨m1, kd1, i1, i2, i3, i4, i5⟩ := c_initS (m := nm m n z_X9) (kd := nk kd n (13, 0)) (n := n + 1) (c := c + 1) (s := s + 5) (S := n) (by rw [kn _ (by omega)]; exact x3.1) (by omega) (by push_cast; rfl) (nk_hit _ _ _) ⟨by rw [nm_hit]; rfl, by rw [nm_hit]; rfl⟩
  have lo1 : ∀ x : Int, x < n → m1 x = m x := fun x hx => by rw [i4 x hx, nm_nof _ _ (by omega)]
  have kd1lo : ∀ x : Int, x < n → kd1 x = kd x := fun x hx => by rw [i5 x (by push_cast; omega), kn x hx]
  have m2lo : ∀ x : Int, x < n → x ≠ 63 → qa_up m1 63 i n x = m x := fun x hx hne => by
    funext k
    rw [qa_up_no _ (fun z => hne z.1), lo1 x hx]
  have m263 : ∀ k, k ≠ i → qa_up m1 63 i n 63 k = m 63 k := fun k hk => by rw [qa_up_no _ (fun z => hk z.2), lo1 63 (by omega)]
  have m2i : qa_up m1 63 i n 63 i = n := qa_up_hit _ _ _ _
  have m266 : qa_up m1 63 i n 66 = m 66 := m2lo 66 (by omega) (by decide)
  have en : ∀ e, kd e = (9, 0) → qa_up m1 63 i n e = m e ∧ kd1 e = kd e := fun e he => by
    have : e < n := by
      apply Classical.byContradiction
      intro hh
      rw [j7 e (by omega)] at he
      cases he
    exact ⟨m2lo e this (fun z => by rw [z, x63] at he; cases he), kd1lo e this⟩
  have ecast : ((n + 1 + 29 : Nat) : Int) = (n : Int) + 30 := by omega
  have hO : ∀ S', JO m kd n S' → JO (qa_up m1 63 i n) kd1 ((n + 1 + 29 : Nat) : Int) S' := fun S' h => by
    refine ⟨h.1, by have := h.2.1; omega, KS_keep h.2.2.1 (fun x a b => kd1lo x (by have := h.2.1; omega)) (by rw [kd1lo _ (by omega)]; exact x3.1), MS_keep h.2.2.2 (fun x a b => m2lo x (by have := h.2.1; omega) (by have := h.1; omega))⟩
  have hOn : JO (qa_up m1 63 i n) kd1 ((n + 1 + 29 : Nat) : Int) n := ⟨j6, by omega, i3, MS_keep i2.1 (fun x a b => by
    funext k
    exact qa_up_no _ (by omega))⟩
  have hltn : ∀ S', JO m kd n S' → S' < n := fun S' h => by have := h.2.1; omega
  have hC2 : ∀ (A' : zA) (S' : Int), RC A' m kd S' → S' + 30 ≤ n → (∀ x, S' ≤ x → x < S' + 30 → x ≠ 63) → RC A' (qa_up m1 63 i n) kd1 S' := fun A' S' h hn' h63 => RC_keep h (fun x a b => m2lo x (by omega) (h63 x a b)) en
  refine ⟨m1, kd1, i1, ⟨rfl, ⟨?_, ?_, ⟨?_, ?_, ?_, ?_, ?_, ?_⟩, ?_, ?_, ?_⟩, ⟨fun k a b => ?_, fun k a b => ?_, fun k l a b c d e f => ?_, fun k l a b c d e => ?_, ?_, by omega, fun x hx => ?_⟩, ⟨?_, u2, u3, fun k k1 k2 => ?_⟩, fun k a b hk => ?_, ?_⟩, fun x hx => ?_, m2lo 65 (by omega) (by decide), znull_up2 hi m263 h0 m2i (by omega) m266, fun x hx => ⟨lo1 x hx, kd1lo x hx⟩, fun k hk => by rw [lo1 63 (by omega)], by rw [i3.2.1]⟩
  · rw [m2lo 0 (by omega) (by decide), kd1lo 0 (by omega)]; exact x0
  · rw [m2lo 1 (by omega) (by decide), kd1lo 1 (by omega), kd1lo 2 (by omega)]; exact x1
  · rw [kd1lo _ (by omega)]; exact x63
  · rw [kd1lo _ (by omega)]; exact x64
  · rw [m2lo 64 (by omega) (by decide)]; exact x640
  · rw [m2lo 64 (by omega) (by decide)]; exact x641
  · rw [kd1lo _ (by omega)]; exact x65
  · rw [kd1lo _ (by omega)]; exact x66
  · exact KS_keep x3 (fun x a b => kd1lo x (by omega)) (by rw [kd1lo _ (by omega)]; exact x3.1)
  · exact KS_keep x33 (fun x a b => kd1lo x (by omega)) (by rw [kd1lo _ (by omega)]; exact x3.1)
  · exact MS_keep xm33 (fun x a b => m2lo x (by omega) (by omega))
  · rw [m266]; exact (j1 k a b).imp id (hO _)
  · by_cases e : k = i
    · rw [e, m2i]; exact Or.inr hOn
    · rw [m263 k e]; exact (j2 k a b).imp id (hO _)
  · rw [m266] at f ⊢; exact j3 k l a b c d e f
  · rw [m266] at e ⊢
    by_cases e1 : l = i
    · rw [e1, m2i]
      intro hz
      rcases j1 k a b with q | q
      · exact e q
      · have := hltn _ q; omega
    · rw [m263 l e1]
      exact j4 k l a b c d e
  · have h01 : i = 0 ∨ i = 1 := by omega
    rcases h01 with rfl | rfl
    · rw [m2i, m263 1 (by decide)]
      intro _ hz
      rcases j2 1 (by decide) (by decide) with q | q
      · rw [q] at hz; omega
      · have := hltn _ q; omega
    · rw [m2i, m263 0 (by decide)]
      intro _ hz
      rcases j2 0 (by decide) (by decide) with q | q
      · rw [q] at hz; omega
      · have := hltn _ q; omega
  · rw [i5 x (by omega), nk_no _ _ (by omega)]
    exact j7 x (by omega)
  · rw [m2lo 64 (by omega) (by decide)]; exact u1
  · obtain ⟨v1, v2⟩ := u4 k k1 k2
    rw [m266]
    have hk : JO m kd n (m 66 k) := by
      rcases j1 k k1 (by omega) with h | h
      · exact absurd h v1
      · exact h
    exact ⟨v1, hC2 _ _ v2 hk.2.1 (fun x a b => by have := hk.1; omega)⟩
  · show RC (if k = i then z00 else SV k) _ _ _
    by_cases e : k = i
    · rw [if_pos e, e, m2i]
      exact RC_keep i2 (fun x a b => by
        funext k
        exact qa_up_no _ (by omega)) (fun e he => by
        have : e < n := by
          apply Classical.byContradiction
          intro hh
          by_cases hl : (n : Int) + 30 ≤ e
          · rw [i5 e (by omega), nk_no _ _ (by omega), j7 e (by omega)] at he
            cases he
          · have := i3.entry he; omega
        exact ⟨by
          funext k
          have : e ≠ 63 := fun z => by rw [z, kd1lo 63 (by omega), x63] at he; cases he
          exact qa_up_no _ (fun z => this z.1), rfl⟩)
    · rw [if_neg e]
      rw [m263 k e] at hk ⊢
      have hk' : JO m kd n (m 63 k) := by
        rcases j2 k a b with h | h
        · exact absurd h hk
        · exact h
      exact hC2 _ _ (hV k a b hk) hk'.2.1 (fun x a b => by have := hk'.1; omega)
  · exact hC2 A 3 hC (by omega) (fun x a b => by omega)
  · have hxn : x < n := by
      apply Classical.byContradiction
      intro hh
      have := j7 x (by omega)
      rcases hx with h | h | h | h | h
      · omega
      · omega
      · omega
      · rw [this] at h; cases h
      · rw [this] at h; exact absurd h (by decide)
    have h63 : x ≠ 63 := by
      intro z
      rw [z, x63] at hx
      rcases hx with h | h | h | h | h
      · omega
      · omega
      · omega
      · cases h
      · exact absurd h (by decide)
    exact ⟨m2lo x hxn h63, kd1lo x hxn⟩
theorem zSv_zSv {SV : Int → zA} {i : Int} {A B : zA} : zSv (zSv SV i A) i B = zSv SV i B := by
  funext k
  unfold zSv
  split
  · rfl
  · rfl
theorem ca_save {m : Int → Int → Int} {kd : Int → Nat × Int} {n c s : Nat} {um S : Int} {U SV : Int → zA} {A : zA} {M : Int} (hS : CS um U SV A m kd n S) (hW : zW M A) {i : Int} : (¬ (0 ≤ i ∧ i ≤ 1) → f_X11_save [(1, 0), (0, i)] (m, kd, n, c, s) = some (.inr 2, (m, kd, n, c + 1, s + 6))) ∧ ((0 ≤ i ∧ i ≤ 1) → ∃ m' kd' n' c' s', f_X11_save [(1, 0), (0, i)] (m, kd, n, c, s) = some (.inl none, (m', kd', n', c', s')) ∧ CS um U (zSv SV i A) A m' kd' (n' : Nat) S ∧ zfz m kd m' kd' ∧ m' 65 = m 65 ∧ (c' : Int) + 30 * znull m' ≤ c + 30 * znull m + 2 ∧ (s' : Int) + 2271 * znull m' ≤ s + 2271 * znull m + 10 ∧ n ≤ n' ∧ c ≤ c' ∧ s ≤ s' ∧ (∀ k, k ≠ i → m' 63 k = m 63 k) ∧ m' 63 i ≠ -1) := by
  obtain ⟨hK, hC, hx, hn, h4, k64, h00, k1, x640, x65⟩ := hS.f
  obtain ⟨x0, x1, ⟨x63, x64, x640', x641, x65', x66⟩, x3, x33, xm33⟩ := hS.2.1
  have h03 : m 0 3 = 63 := x0.2.2.2.2.1
  have hS3 := hS.1
  have kS := hK.2.1
  have rg := c_needRange (m := m) (kd := kd) (w := (n, c, s)) i 0 1
  refine ⟨fun h => ?_, fun h => ?_⟩
  · rw [if_neg h] at rg
    unfold f_X11_save
    refine qa_fn_eq ?_ (by simp)
    simp (disch := omega) [ev_X11_save_0, ev_X11_save_1, B_X11_save_0, B_X11_save_1, x_const, x_iadd, x_isub, x_imul, x_idiv, x_irem, x_ineg, x_dup, x_dup_x1, x_dup2, x_pop, x_goto, x_ifeq, x_ifne, x_iflt, x_ifge, x_ifgt, x_ifle, x_cmpeq, x_cmpne, x_cmplt, x_cmpge, x_cmpgt, x_cmple, x_null, x_nonnull, x_acmpeq, x_acmpne, x_get, x_put, x_putz, x_ald, x_ast, x_bast, x_zast, x_aast, x_alen, x_obj, x_ret, x_retz, x_vret, x_max, x_min, x_copy, x_i2l, qg_none, qg_inl, qg_inr, qg_ite, xr1, xr0, xrE, xri, xl0, xl1, xl2, xl3, xl4, xl5, xl6, xl7, xl8, xl9, xl10, xs0, xs1, xs2, xs3, xs4, xs5, xs6, xs7, xs8, xs9, xs10, xi0, xi1, xi2, xi3, xi4, xi5, xi6, xi7, xi8, xi9, xi10, xc0, xc1, xc2, xc3, xc4, xc5, xc6, xc7, xv1, xv2, xv3, xv4, xv5, xv6, xv7, dT_le, dF_le, dT_lt, dF_lt, rg]
  · rw [if_pos h] at rg
    by_cases hz : m 63 i = -1
    · obtain ⟨m1, kd1, i1, i2, i3, i4, i5, i6, i7, i8⟩ := c_saveNew (c := c) (s := s) hS h hz
      have hn93 : 93 ≤ (n : Int) := hS.2.2.1.2.2.2.2.2.1
      obtain ⟨m2, j1, j2, j3, j4, j5, j6⟩ := c_saveCopy (w := (n + 1 + 29, c + 1 + 29, s + 5 + 2266)) i2 hW h (qa_up_hit _ _ _ _) (by omega)
      rw [zSv_zSv] at j2
      have k131 : (nk kd n (13, 0) n).1 = 13 := by rw [nk_hit]
      have t03 : m1 0 3 = 63 := by rw [(i6 0 (by omega)).1]; exact h03
      have t00 : kd1 0 = (14, 0) := by rw [(i6 0 (by omega)).2]; exact hx
      have t63 : kd1 63 = (123, 2) := by rw [(i6 63 (by omega)).2]; exact x63
      have t01 : m1 0 1 = S := by rw [(i6 0 (by omega)).1]; exact hn
      have e63 : m2 63 = qa_up m1 63 i n 63 := (j3 63 (by omega)).1
      refine ⟨m2, kd1, n + 1 + 29, c + 1 + 29, s + 5 + 2266, ?_, j2, i3.trans j3.z, by rw [j4, i4], by rw [j5, i5]; omega, by rw [j5, i5]; omega, by omega, by omega, by omega, fun k hk => ?_, ?_⟩
      · have nne : (n : Int) ≠ -1 := by omega
        unfold f_X11_save
        refine qa_fn_eq ?_ (by simp; exact ⟨by omega, by omega, by omega⟩)
        simp (disch := omega) [ev_X11_save_0, ev_X11_save_1, B_X11_save_0, B_X11_save_1, x_const, x_iadd, x_isub, x_imul, x_idiv, x_irem, x_ineg, x_dup, x_dup_x1, x_dup2, x_pop, x_goto, x_ifeq, x_ifne, x_iflt, x_ifge, x_ifgt, x_ifle, x_cmpeq, x_cmpne, x_cmplt, x_cmpge, x_cmpgt, x_cmple, x_null, x_nonnull, x_acmpeq, x_acmpne, x_get, x_put, x_putz, x_ald, x_ast, x_bast, x_zast, x_aast, x_alen, x_obj, x_ret, x_retz, x_vret, x_max, x_min, x_copy, x_i2l, qg_none, qg_inl, qg_inr, qg_ite, xr1, xr0, xrE, xri, xl0, xl1, xl2, xl3, xl4, xl5, xl6, xl7, xl8, xl9, xl10, xs0, xs1, xs2, xs3, xs4, xs5, xs6, xs7, xs8, xs9, xs10, xi0, xi1, xi2, xi3, xi4, xi5, xi6, xi7, xi8, xi9, xi10, xc0, xc1, xc2, xc3, xc4, xc5, xc6, xc7, xv1, xv2, xv3, xv4, xv5, xv6, xv7, dT_le, dF_le, dT_lt, dF_lt, dT_eq, dF_eq, qa_up_hit, qa_up_no, x_new, hx, hn, h03, x63, rg, hz, i1, t00, t01, t03, t63, k131, i8, j1]
      · rw [e63, qa_up_no _ (fun z => hk z.2)]
        exact i7 k hk
      · rw [e63, qa_up_hit]; omega
    · obtain ⟨m2, j1, j2, j3, j4, j5, j6⟩ := c_saveCopy (w := (n, c, s)) hS hW h rfl hz
      refine ⟨m2, kd, n, c, s, ?_, j2, j3.z, j4, by rw [j5]; omega, by rw [j5]; omega, Nat.le_refl _, Nat.le_refl _, Nat.le_refl _, fun k hk => ?_, ?_⟩
      · unfold f_X11_save
        refine qa_fn_eq ?_ (by simp)
        simp (disch := omega) [ev_X11_save_0, ev_X11_save_1, B_X11_save_0, B_X11_save_1, x_const, x_iadd, x_isub, x_imul, x_idiv, x_irem, x_ineg, x_dup, x_dup_x1, x_dup2, x_pop, x_goto, x_ifeq, x_ifne, x_iflt, x_ifge, x_ifgt, x_ifle, x_cmpeq, x_cmpne, x_cmplt, x_cmpge, x_cmpgt, x_cmple, x_null, x_nonnull, x_acmpeq, x_acmpne, x_get, x_put, x_putz, x_ald, x_ast, x_bast, x_zast, x_aast, x_alen, x_obj, x_ret, x_retz, x_vret, x_max, x_min, x_copy, x_i2l, qg_none, qg_inl, qg_inr, qg_ite, xr1, xr0, xrE, xri, xl0, xl1, xl2, xl3, xl4, xl5, xl6, xl7, xl8, xl9, xl10, xs0, xs1, xs2, xs3, xs4, xs5, xs6, xs7, xs8, xs9, xs10, xi0, xi1, xi2, xi3, xi4, xi5, xi6, xi7, xi8, xi9, xi10, xc0, xc1, xc2, xc3, xc4, xc5, xc6, xc7, xv1, xv2, xv3, xv4, xv5, xv6, xv7, dT_le, dF_le, dT_lt, dF_lt, hx, hn, h03, x63, rg, hz, j1, j6]
      · rw [(j3 63 (by omega)).1]
      · rw [(j3 63 (by omega)).1]; exact hz
