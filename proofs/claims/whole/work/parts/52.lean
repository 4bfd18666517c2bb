theorem KS_apart {kd : Int → Nat × Int} {S S' : Int} (h : KS kd S) (h' : KS kd S') (hne : S ≠ S') : zapart S S' := by
  have key : ∀ {S S' : Int}, KS kd S → KS kd S' → S < S' → S + 30 ≤ S' := fun {S S'} h h' hlt => by
    obtain ⟨kN, kS, kC, kV, kW, kB, kE, kR, kD, kL⟩ := id h
    have k' := h'.2.1
    apply Classical.byContradiction
    intro hc
    have h0 : S' = S + 1 ∨ S' = S + 2 ∨ S' = S + 3 ∨ (S + 4 ≤ S' ∧ S' < S + 12) ∨ (S + 12 ≤ S' ∧ S' < S + 30) := by omega
    rcases h0 with e | e | e | h0 | h0
    · rw [e, kC] at k'; cases k'
    · rw [e, kV] at k'; cases k'
    · rw [e, kW] at k'; cases k'
    · have : S' = S + 4 + 2 * ((S' - S - 4) / 2) ∨ S' = S + 5 + 2 * ((S' - S - 4) / 2) := by omega
      rcases this with q | q <;> rw [q] at k'
      · rw [kB _ (by omega) (by omega)] at k'; cases k'
      · rw [kE _ (by omega) (by omega)] at k'; cases k'
    · have : S' = S + 12 + 3 * ((S' - S - 12) / 3) ∨ S' = S + 13 + 3 * ((S' - S - 12) / 3) ∨ S' = S + 14 + 3 * ((S' - S - 12) / 3) := by omega
      rcases this with q | q | q <;> rw [q] at k'
      · rw [kR _ (by omega) (by omega)] at k'; cases k'
      · rw [kD _ (by omega) (by omega)] at k'; cases k'
      · rw [kL _ (by omega) (by omega)] at k'; cases k'
  unfold zapart
  rcases Int.lt_or_gt_of_ne hne with q | q
  · exact Or.inl (key h h' q)
  · exact Or.inr (key h' h q)
theorem RC_keep {A : zA} {m m' : Int → Int → Int} {kd kd' : Int → Nat × Int} {S : Int} (hC : RC A m kd S) (hm : ∀ c, S ≤ c → c < S + 30 → m' c = m c) (he : ∀ e, kd e = (9, 0) → m' e = m e ∧ kd' e = kd e) : RC A m' kd' S := by
  obtain ⟨⟨f2, f3, f4, fV, fW, f0, f8, f9, f7⟩, e0, e1, eC, eB, eR, eD, eL, eE⟩ := id hC
  refine ⟨⟨by rw [hm _ (by omega) (by omega)]; exact f2, by rw [hm _ (by omega) (by omega)]; exact f3, by rw [hm _ (by omega) (by omega)]; exact f4, fun b b1 b2 => by rw [hm _ (by omega) (by omega)]; exact fV b b1 b2, fun r b1 b2 => by rw [hm _ (by omega) (by omega)]; exact fW r b1 b2, fun b b1 b2 => by rw [hm _ (by omega) (by omega)]; exact f0 b b1 b2, fun b b1 b2 => by rw [hm _ (by omega) (by omega)]; exact f8 b b1 b2, fun r b1 b2 => by rw [hm _ (by omega) (by omega)]; exact f9 r b1 b2, fun r b1 b2 => by rw [hm _ (by omega) (by omega)]; exact f7 r b1 b2⟩, by rw [hm _ (by omega) (by omega)]; exact e0, by rw [hm _ (by omega) (by omega)]; exact e1, fun i i1 i2 => by rw [hm _ (by omega) (by omega)]; exact eC i i1 i2, fun b j b1 b2 j1 j2 => by rw [hm _ (by omega) (by omega)]; exact eB b j b1 b2 j1 j2, fun r j b1 b2 j1 j2 => by rw [hm _ (by omega) (by omega)]; exact eR r j b1 b2 j1 j2, fun r j b1 b2 t j1 j2 => by rw [hm _ (by omega) (by omega)]; exact eD r j b1 b2 t j1 j2, fun r j b1 b2 t j1 j2 => by rw [hm _ (by omega) (by omega)]; exact eL r j b1 b2 t j1 j2, fun b p b1 b2 t p1 p2 => ?_⟩
  rw [hm _ (by omega) (by omega)]
  have q := eE b p b1 b2 t p1 p2
  have q' := he _ q.1
  rw [q'.1, q'.2]
  exact q
theorem KS_keep {kd kd' : Int → Nat × Int} {S : Int} (hK : KS kd S) (hm : ∀ c, S ≤ c → c < S + 30 → kd' c = kd c) (hN : kd' (-1) = (0, 0)) : KS kd' S := by
  obtain ⟨kN, kS, kC, kV, kW, kB, kE, kR, kD, kL⟩ := id hK
  exact ⟨hN, by rw [hm _ (by omega) (by omega)]; exact kS, by rw [hm _ (by omega) (by omega)]; exact kC, by rw [hm _ (by omega) (by omega)]; exact kV, by rw [hm _ (by omega) (by omega)]; exact kW, fun b b1 b2 => by rw [hm _ (by omega) (by omega)]; exact kB b b1 b2, fun b b1 b2 => by rw [hm _ (by omega) (by omega)]; exact kE b b1 b2, fun r b1 b2 => by rw [hm _ (by omega) (by omega)]; exact kR r b1 b2, fun r b1 b2 => by rw [hm _ (by omega) (by omega)]; exact kD r b1 b2, fun r b1 b2 => by rw [hm _ (by omega) (by omega)]; exact kL r b1 b2⟩
theorem MS_keep {m m' : Int → Int → Int} {S : Int} (hM : MS m S) (hm : ∀ c, S ≤ c → c < S + 30 → m' c = m c) : MS m' S := by
  obtain ⟨f2, f3, f4, fV, fW, f0, f8, f9, f7⟩ := id hM
  exact ⟨by rw [hm _ (by omega) (by omega)]; exact f2, by rw [hm _ (by omega) (by omega)]; exact f3, by rw [hm _ (by omega) (by omega)]; exact f4, fun b b1 b2 => by rw [hm _ (by omega) (by omega)]; exact fV b b1 b2, fun r b1 b2 => by rw [hm _ (by omega) (by omega)]; exact fW r b1 b2, fun b b1 b2 => by rw [hm _ (by omega) (by omega)]; exact f0 b b1 b2, fun b b1 b2 => by rw [hm _ (by omega) (by omega)]; exact f8 b b1 b2, fun r b1 b2 => by rw [hm _ (by omega) (by omega)]; exact f9 r b1 b2, fun r b1 b2 => by rw [hm _ (by omega) (by omega)]; exact f7 r b1 b2⟩
def CX (m : Int → Int → Int) (kd : Int → Nat × Int) : Prop := (kd 0 = (14, 0) ∧ m 0 0 = 1 ∧ m 0 1 = 3 ∧ m 0 2 = 33 ∧ m 0 3 = 63 ∧ m 0 4 = 64 ∧ m 0 5 = 67 ∧ m 0 6 = 71 ∧ m 0 7 = 75) ∧ (kd 1 = (11, 0) ∧ m 1 0 = 2 ∧ kd 2 = (101, 7)) ∧ (kd 63 = (123, 2) ∧ kd 64 = (5, 0) ∧ m 64 0 = 65 ∧ m 64 1 = 66 ∧ kd 65 = (101, 11) ∧ kd 66 = (123, 8)) ∧ (KS kd 3 ∧ KS kd 33 ∧ MS m 33)
def JO (m : Int → Int → Int) (kd : Int → Nat × Int) (n : Int) (S : Int) : Prop := 93 ≤ S ∧ S + 30 ≤ n ∧ KS kd S ∧ MS m S
def JS (m : Int → Int → Int) (kd : Int → Nat × Int) (n : Int) : Prop := (∀ i, 0 ≤ i → i < 8 → m 66 i = -1 ∨ JO m kd n (m 66 i)) ∧ (∀ i, 0 ≤ i → i < 2 → m 63 i = -1 ∨ JO m kd n (m 63 i)) ∧ (∀ i j, 0 ≤ i → i < 8 → 0 ≤ j → j < 8 → i ≠ j → m 66 i ≠ -1 → m 66 i ≠ m 66 j) ∧ (∀ i j, 0 ≤ i → i < 8 → 0 ≤ j → j < 2 → m 66 i ≠ -1 → m 66 i ≠ m 63 j) ∧ (m 63 0 ≠ -1 → m 63 0 ≠ m 63 1) ∧ 93 ≤ n ∧ ∀ x, n ≤ x → kd x = (0, 0)
def CU (um : Int) (U : Int → zA) (m : Int → Int → Int) (kd : Int → Nat × Int) : Prop := m 64 2 = um ∧ 0 ≤ um ∧ um ≤ 8 ∧ ∀ k, 0 ≤ k → k < um → m 66 k ≠ -1 ∧ RC (U k) m kd (m 66 k)
def CV (SV : Int → zA) (m : Int → Int → Int) (kd : Int → Nat × Int) : Prop := ∀ i, 0 ≤ i → i < 2 → m 63 i ≠ -1 → RC (SV i) m kd (m 63 i)
def zfx (m : Int → Int → Int) (kd : Int → Nat × Int) (m' : Int → Int → Int) (kd' : Int → Nat × Int) : Prop := ∀ c, (0 ≤ c ∧ c ≤ 2) ∨ c = 63 ∨ (67 ≤ c ∧ c ≤ 92) ∨ c = -1 ∨ kd c = (9, 0) ∨ (kd c).1 = 102 → m' c = m c ∧ kd' c = kd c
def znull (m : Int → Int → Int) : Int := zsum (fun i => if m 66 i = -1 then 1 else 0) 8 + zsum (fun i => if m 63 i = -1 then 1 else 0) 2
def zfg (m : Int → Int → Int) : Int → Int → Int := fun c i => if c = 66 ∧ 0 ≤ i ∧ i < 7 then m 66 (i + 1) else if c = 66 ∧ i = 7 then m 66 0 else if c = 64 ∧ i = 2 then m 64 2 - 1 else m c i
def zfo (m : Int → Int → Int) (k : Int) : Int → Int → Int := fun c i => if c = 66 ∧ 0 ≤ i ∧ i < k - 1 then m 66 (i + 1) else m c i
theorem zfo_no {m : Int → Int → Int} {k c i : Int} (h : c ≠ 66 ∨ i < 0 ∨ k - 1 ≤ i) : zfo m k c i = m c i := if_neg (by omega)
theorem zfo_up {m : Int → Int → Int} {k : Int} (hk : 1 ≤ k) : qa_up (zfo m k) 66 (k - 1) (m 66 k) = zfo m (k + 1) := by
  funext c i
  by_cases hc : c = 66
  · subst hc
    by_cases hi : i = k - 1
    · rw [qa_up_at _ ⟨rfl, hi⟩]
      unfold zfo
      rw [if_pos (by omega), hi, show k - 1 + 1 = k by omega]
    · rw [qa_up_no _ (fun z => hi z.2)]
      unfold zfo
      by_cases hh : 0 ≤ i ∧ i < k - 1
      · rw [if_pos ⟨rfl, hh⟩, if_pos (by omega)]
      · rw [if_neg (fun z => hh z.2), if_neg (by omega)]
  · rw [qa_up_no _ (fun z => hc z.1), zfo_no (Or.inl hc), zfo_no (Or.inl hc)]
theorem zfo_end {m : Int → Int → Int} : qa_up (qa_up (zfo m 8) 66 7 (m 66 0)) 64 2 (m 64 2 - 1) = zfg m := by
  funext c i
  unfold zfg
  by_cases hc : c = 66
  · subst hc
    rw [qa_up_no _ (by omega)]
    by_cases h7 : i = 7
    · subst h7
      rw [qa_up_hit, if_neg (by omega), if_pos ⟨rfl, rfl⟩]
    · rw [qa_up_no _ (fun z => h7 z.2)]
      unfold zfo
      by_cases hh : 0 ≤ i ∧ i < 7
      · rw [if_pos ⟨rfl, by omega⟩, if_pos ⟨rfl, hh⟩]
      · rw [if_neg (by omega), if_neg (by omega), if_neg (by omega), if_neg (by omega)]
  · rw [if_neg (fun z => hc z.1), if_neg (fun z => hc z.1)]
    by_cases h64 : c = 64 ∧ i = 2
    · rw [if_pos h64, h64.1, h64.2, qa_up_hit]
    · rw [if_neg h64, qa_up_no _ h64, qa_up_no _ (fun z => hc z.1), zfo_no (Or.inl hc)]
theorem c_forgetOldest {m : Int → Int → Int} {kd : Int → Nat × Int} {w : Nat × Nat × Nat} {n : Int} (hX : CX m kd) (hJ : JS m kd n) (hu : 0 ≤ m 64 2 ∧ m 64 2 ≤ 8) : f_X1_forgetOldest [(1, 64)] (m, kd, w) = some (.inl none, (zfg m, kd, w)) := by
  obtain ⟨-, -, ⟨x63, x64, x640, x641, x65, x66⟩, -⟩ := id hX
  obtain ⟨j1, j2, j3, j4, j5, j6, j7⟩ := id hJ
  have kst : ∀ i, 0 ≤ i → i < 8 → m 66 i = -1 ∨ (kd (m 66 i)).1 = 13 := fun i i1 i2 => by
    rcases j1 i i1 i2 with h | h
    · exact Or.inl h
    · exact Or.inr (by rw [h.2.2.1.2.1])
  have loop : ∀ (q : Nat) (k : Int), 1 ≤ k → k + q = 8 → qa_ev P_X1_forgetOldest 1 [(1, 64), (1, m 66 0), (0, k)] [] (zfo m k, kd, w) = some (Sum.inl none, (zfg m, kd, w)) := by
    intro q
    induction q with
    | zero =>
      intro k h1 h2
      obtain rfl : k = 8 := by omega
      have k0 := kst 0 (by decide) (by decide)
      have z1 : zfo m 8 64 1 = 66 := by rw [zfo_no (by omega)]; exact x641
      have z2 : zfo m 8 64 2 = m 64 2 := zfo_no (by omega)
      rw [ev_X1_forgetOldest_1]
      simp (disch := omega) [ev_X1_forgetOldest_0, ev_X1_forgetOldest_2, B_X1_forgetOldest_0, B_X1_forgetOldest_1, B_X1_forgetOldest_2, x_const, x_iadd, x_isub, x_imul, x_idiv, x_irem, x_ineg, x_dup, x_dup_x1, x_dup2, x_pop, x_goto, x_ifeq, x_ifne, x_iflt, x_ifge, x_ifgt, x_ifle, x_cmpeq, x_cmpne, x_cmplt, x_cmpge, x_cmpgt, x_cmple, x_null, x_nonnull, x_acmpeq, x_acmpne, x_get, x_put, x_putz, x_ald, x_ast, x_bast, x_zast, x_aast, x_alen, x_obj, x_ret, x_retz, x_vret, x_max, x_min, x_copy, x_i2l, qg_none, qg_inl, qg_inr, qg_ite, xr1, xr0, xrE, xri, xl0, xl1, xl2, xl3, xl4, xl5, xl6, xl7, xl8, xl9, xl10, xs0, xs1, xs2, xs3, xs4, xs5, xs6, xs7, xs8, xs9, xs10, xi0, xi1, xi2, xi3, xi4, xi5, xi6, xi7, xi8, xi9, xi10, xc0, xc1, xc2, xc3, xc4, xc5, xc6, xc7, xv1, xv2, xv3, xv4, xv5, xv6, xv7, dT_le, dF_le, dT_lt, dF_lt, dT_eq, dF_eq, qa_up_hit, qa_up_no, x64, z1, z2, x66, k0, zfo_end]
    | succ q ih =>
      intro k h1 h2
      have ih' := ih (k + 1) (by omega) (by omega)
      have kk := kst k (by omega) (by omega)
      have z1 : zfo m k 64 1 = 66 := by rw [zfo_no (by omega)]; exact x641
      have z3 : zfo m k 66 k = m 66 k := zfo_no (by omega)
      rw [ev_X1_forgetOldest_1]
      simp (disch := omega) [ev_X1_forgetOldest_0, ev_X1_forgetOldest_2, B_X1_forgetOldest_0, B_X1_forgetOldest_1, B_X1_forgetOldest_2, x_const, x_iadd, x_isub, x_imul, x_idiv, x_irem, x_ineg, x_dup, x_dup_x1, x_dup2, x_pop, x_goto, x_ifeq, x_ifne, x_iflt, x_ifge, x_ifgt, x_ifle, x_cmpeq, x_cmpne, x_cmplt, x_cmpge, x_cmpgt, x_cmple, x_null, x_nonnull, x_acmpeq, x_acmpne, x_get, x_put, x_putz, x_ald, x_ast, x_bast, x_zast, x_aast, x_alen, x_obj, x_ret, x_retz, x_vret, x_max, x_min, x_copy, x_i2l, qg_none, qg_inl, qg_inr, qg_ite, xr1, xr0, xrE, xri, xl0, xl1, xl2, xl3, xl4, xl5, xl6, xl7, xl8, xl9, xl10, xs0, xs1, xs2, xs3, xs4, xs5, xs6, xs7, xs8, xs9, xs10, xi0, xi1, xi2, xi3, xi4, xi5, xi6, xi7, xi8, xi9, xi10, xc0, xc1, xc2, xc3, xc4, xc5, xc6, xc7, xv1, xv2, xv3, xv4, xv5, xv6, xv7, dT_le, dF_le, dT_lt, dF_lt, x64, z1, z3, x66, kk, zfo_up h1, ih']
  have lp := loop 7 1 (by decide) (by decide)
  have e0 : zfo m 1 = m := by
    funext c i
    exact zfo_no (by omega)
  rw [e0] at lp
  unfold f_X1_forgetOldest
  refine qa_fn_eq ?_ (by simp)
  simp (disch := omega) [ev_X1_forgetOldest_0, ev_X1_forgetOldest_2, B_X1_forgetOldest_0, B_X1_forgetOldest_1, B_X1_forgetOldest_2, x_const, x_iadd, x_isub, x_imul, x_idiv, x_irem, x_ineg, x_dup, x_dup_x1, x_dup2, x_pop, x_goto, x_ifeq, x_ifne, x_iflt, x_ifge, x_ifgt, x_ifle, x_cmpeq, x_cmpne, x_cmplt, x_cmpge, x_cmpgt, x_cmple, x_null, x_nonnull, x_acmpeq, x_acmpne, x_get, x_put, x_putz, x_ald, x_ast, x_bast, x_zast, x_aast, x_alen, x_obj, x_ret, x_retz, x_vret, x_max, x_min, x_copy, x_i2l, qg_none, qg_inl, qg_inr, qg_ite, xr1, xr0, xrE, xri, xl0, xl1, xl2, xl3, xl4, xl5, xl6, xl7, xl8, xl9, xl10, xs0, xs1, xs2, xs3, xs4, xs5, xs6, xs7, xs8, xs9, xs10, xi0, xi1, xi2, xi3, xi4, xi5, xi6, xi7, xi8, xi9, xi10, xc0, xc1, xc2, xc3, xc4, xc5, xc6, xc7, xv1, xv2, xv3, xv4, xv5, xv6, xv7, dT_le, dF_le, dT_lt, dF_lt, x64, x640, x641, x66, lp]
