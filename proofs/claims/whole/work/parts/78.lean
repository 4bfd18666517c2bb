def cRead (um : Int) (U SV : Int → zA) (A : zA) (r it : Int) (m : Int → Int → Int) (kd : Int → Nat × Int) (n c s : Nat) (S : Int) (res : Option qR) : Prop := ∃ m' kd' n' c' s', res = some (.inl (some (0, zTk A r it + zHas A r)), (m', kd', n', c', s')) ∧ CS (zpu um) (zpU um U A) SV (zRead A r it) m' kd' (n' : Nat) S ∧ zfy m kd m' kd' ∧ (∀ i, m' 65 i = if i = 0 then m 65 0 + 1 else m 65 i) ∧ (c' : Int) + 30 * znull m' ≤ c + 30 * znull m + 2 ∧ (s' : Int) + 2271 * znull m' ≤ s + 2271 * znull m + 10 ∧ n ≤ n' ∧ c ≤ c' ∧ s ≤ s' ∧ CD (zHas A r) (A.2.2.1 r 2) (zTk A r it) (fun j => A.2.2.1 r (9 + j)) (fun i j => A.2.2.2 (A.2.2.1 r 1) (A.2.2.1 r 2 + i) j) m' kd'
theorem ca_read {m : Int → Int → Int} {kd : Int → Nat × Int} {n c s : Nat} {um S : Int} {U SV : Int → zA} {A : zA} {M : Int} (hS : CS um U SV A m kd n S) (hW : zW M A) (ha : ∀ i, 0 ≤ i → i ≤ 10 → 0 ≤ m 65 i ∧ m 65 i < 100000000) {h0 p0 c0 : Int} {sm : Int → Int} {en : Int → Int → Int} (hD : CD h0 p0 c0 sm en m kd) (hk9 : ∀ c, 67 ≤ c → c ≤ 92 → kd c ≠ (9, 0)) (h05 : m 0 5 = 67) (hM : M + 1 ≤ 500000) {r it : Int} (hr : zRl A r) (hi : 1 ≤ it ∧ it ≤ 99) : ((A.2.2.1 r 9 = 0 ∧ A.2.1 (A.2.2.1 r 1) 5 ≤ A.2.2.1 r 2) → cRef 10 m kd (n, c, s) (f_X11_read [(1, 0), (0, r), (0, it)] (m, kd, n, c, s))) ∧ (¬ (A.2.2.1 r 9 = 0 ∧ A.2.1 (A.2.2.1 r 1) 5 ≤ A.2.2.1 r 2) → cRead um U SV A r it m kd n c s S (f_X11_read [(1, 0), (0, r), (0, it)] (m, kd, n, c, s))) := by
  obtain ⟨hK, hC, hx, hn, h4, k64, h00, k1, x640, x65⟩ := hS.f
  have hS3 := hS.1
  have ne := c_needReader (w := (n, c, s)) hK hC hW hx hn r
  rw [if_pos hr] at ne
  have rg := c_needRange (m := m) (kd := kd) (w := (n, c, s)) it 1 99
  rw [if_pos hi] at rg
  obtain ⟨q1, q2, q3⟩ := id hr
  have hwr := hW.2.2.2.2.2.2.2.1 r q1 q2 q3
  unfold zWr at hwr
  have hwd := hW.2.2.2.2.2.2.2.2 r q1 q2 q3
  unfold zWd at hwd
  have htk := zTk_b hW hr hi
  have hh := zHas_01 A r
  obtain ⟨t1, t2, t3⟩ := hwr.1
  have ho := c_homeOf (w := (n, c, s)) hK hC q1 q2 ⟨t1, t2⟩
  have kS := hK.2.1
  have kr := hK.2.2.2.2.2.2.2.1 r q1 q2
  have kdd := hK.2.2.2.2.2.2.2.2.1 r q1 q2
  have kb := hK.2.2.2.2.2.1 _ t1 t2
  have g9 := hC.1.2.2.2.2.2.2.2.1 r q1 q2
  have d9 : m (S + 13 + 3 * r) 0 = A.2.2.1 r 9 := hC.2.2.2.2.2.2.1 r 0 q1 q2 q3 (by decide) (by decide)
  have u2 : m (S + 12 + 3 * r) 2 = A.2.2.1 r 2 := hC.2.2.2.2.2.1 r 2 q1 q2 (by decide) (by decide)
  have u5 : m (S + 4 + 2 * A.2.2.1 r 1) 5 = A.2.1 (A.2.2.1 r 1) 5 := hC.2.2.2.2.1 _ 5 t1 t2 (by decide) (by decide)
  have rf := c_refuse (w := (n, c, s)) (r := 10) k64 x640 x65 (by decide) (ha 10 (by decide) (by decide))
  refine ⟨fun h => ⟨by decide, by decide, ?_⟩, fun h => ?_⟩
  · unfold f_X11_read
    refine qa_fn_eq ?_ (by simp)
    simp (disch := omega) [ev_X11_read_0, ev_X11_read_1, B_X11_read_0, B_X11_read_1, x_const, x_iadd, x_isub, x_imul, x_idiv, x_irem, x_ineg, x_dup, x_dup_x1, x_dup2, x_pop, x_goto, x_ifeq, x_ifne, x_iflt, x_ifge, x_ifgt, x_ifle, x_cmpeq, x_cmpne, x_cmplt, x_cmpge, x_cmpgt, x_cmple, x_null, x_nonnull, x_acmpeq, x_acmpne, x_get, x_put, x_putz, x_ald, x_ast, x_bast, x_zast, x_aast, x_alen, x_obj, x_ret, x_retz, x_vret, x_max, x_min, x_copy, x_i2l, qg_none, qg_inl, qg_inr, qg_ite, xr1, xr0, xrE, xri, xl0, xl1, xl2, xl3, xl4, xl5, xl6, xl7, xl8, xl9, xl10, xs0, xs1, xs2, xs3, xs4, xs5, xs6, xs7, xs8, xs9, xs10, xi0, xi1, xi2, xi3, xi4, xi5, xi6, xi7, xi8, xi9, xi10, xc0, xc1, xc2, xc3, xc4, xc5, xc6, xc7, xv1, xv2, xv3, xv4, xv5, xv6, xv7, dT_le, dF_le, dT_lt, dF_lt, hx, hn, kS, h4, k64, ne, rg, ho, kr, kdd, kb, g9, d9, h.1, u2, u5, rf]
  · obtain ⟨m1, kd1, n1, c1, s1, i1, i2, i3, i4, i5, i6, i7, i8, i9⟩ := c_begS (c := c) (s := s) hS hW (ha 0 (by decide) (by decide))
    obtain ⟨hK1, hC1, hx1, hn1, h41, k641, h001, k11, -⟩ := i2.f
    have hD1 := CD_fx hD i3
    obtain ⟨KD1, MD1, -⟩ := id hD1
    obtain ⟨m2, j1, j2, j3, j4, j5, j6, j7, j8, j9, j10, j11, j12, j13, j14, j15⟩ := c_take (w := (n1, c1, s1)) hK1 hC1 hW hS3 KD1 MD1 hM hr hi
    have kr1 := hK1.2.2.2.2.2.2.2.1 r q1 q2
    have c5 : m2 (S + 12 + 3 * r) 5 = A.2.2.1 r 5 := by rw [j9 5 (by decide) (by decide) (by decide)]; exact hC1.2.2.2.2.2.1 r 5 q1 q2 (by decide) (by decide)
    have c4 : m2 (S + 12 + 3 * r) 4 = A.2.2.1 r 4 := by rw [j9 4 (by decide) (by decide) (by decide)]; exact hC1.2.2.2.2.2.1 r 4 q1 q2 (by decide) (by decide)
    have cb := c_comeBack (m := m2) (w := (n1, c1, s1)) (t := A.1 0) kr1 (by rw [c5]; omega)
    have c3 : ∀ j, (if m2 (S + 12 + 3 * r) 4 = -1 then qa_up m2 (S + 12 + 3 * r) 3 (A.1 0) else qa_up (qa_up (qa_up m2 (S + 12 + 3 * r) 3 (A.1 0)) (S + 12 + 3 * r) 4 (-1)) (S + 12 + 3 * r) 5 (m2 (S + 12 + 3 * r) 5 + 1)) (S + 12 + 3 * r) j = if j = 3 then A.1 0 else if j = 4 then -1 else if j = 5 then A.2.2.1 r 5 + (if A.2.2.1 r 4 = -1 then 0 else 1) else m2 (S + 12 + 3 * r) j := fun j => by
      rw [c4, c5]
      by_cases h4' : A.2.2.1 r 4 = -1
      · rw [if_pos h4', if_pos h4']
        unfold qa_up
        by_cases e3 : j = 3
        · subst e3; simp
        · by_cases e4 : j = 4
          · subst e4; simp [c4, h4']
          · by_cases e5 : j = 5
            · subst e5; simp [c5]
            · simp [e3, e4, e5]
      · rw [if_neg h4', if_neg h4']
        unfold qa_up
        by_cases e3 : j = 3
        · subst e3; simp
        · by_cases e4 : j = 4
          · subst e4; simp
          · by_cases e5 : j = 5
            · subst e5; simp
            · simp [e3, e4, e5]
    have o3 : ∀ x, x ≠ S + 12 + 3 * r → (if m2 (S + 12 + 3 * r) 4 = -1 then qa_up m2 (S + 12 + 3 * r) 3 (A.1 0) else qa_up (qa_up (qa_up m2 (S + 12 + 3 * r) 3 (A.1 0)) (S + 12 + 3 * r) 4 (-1)) (S + 12 + 3 * r) 5 (m2 (S + 12 + 3 * r) 5 + 1)) x = m2 x := fun x hx => by
      funext i
      split
      · rw [qa_up_no _ (fun z => hx z.1)]
      · rw [qa_up_no _ (fun z => hx z.1), qa_up_no _ (fun z => hx z.1), qa_up_no _ (fun z => hx z.1)]
    generalize (if m2 (S + 12 + 3 * r) 4 = -1 then qa_up m2 (S + 12 + 3 * r) 3 (A.1 0) else qa_up (qa_up (qa_up m2 (S + 12 + 3 * r) 3 (A.1 0)) (S + 12 + 3 * r) 4 (-1)) (S + 12 + 3 * r) 5 (m2 (S + 12 + 3 * r) 5 + 1)) = m3 at cb c3 o3
    have z0 : m3 67 0 = zHas A r := by rw [o3 _ (by omega)]; exact j4
    have z3 : m3 67 3 = zTk A r it := by rw [o3 _ (by omega)]; exact j6
    have ic := c_itemCount (m := m3) (kd := kd1) (w := (n1, c1, s1)) KD1.1 ⟨by rw [z0]; exact hh, by rw [z3]; exact htk.1, by rw [z3]; exact htk.2.1⟩
    rw [z0, z3] at ic
    generalize hmm : (fun x i => if 67 ≤ x ∧ x ≤ 70 then m1 x i else m3 x i : Int → Int → Int) = mm
    have mmy : ∀ x, 67 ≤ x ∧ x ≤ 70 → mm x = m1 x := fun x hx => by
      funext i
      rw [← hmm]
      exact if_pos hx
    have mmn : ∀ x, ¬ (67 ≤ x ∧ x ≤ 70) → mm x = m3 x := fun x hx => by
      funext i
      rw [← hmm]
      exact if_neg hx
    have hzf : zfr m1 mm S := fun x hx => by
      by_cases e : 67 ≤ x ∧ x ≤ 70
      · exact mmy x e
      · rw [mmn x e, o3 x (by omega), j2 x (by omega) (by omega) (by omega) (by omega) (by omega) (by omega) (by omega)]
    have hCm : RC (zRead A r it) mm kd1 S := by
      refine RC_rd hK1 hC1 (k := r) (R' := (zRead A r it).2.2.1) q1 q2 (fun x x1 x2 x3 => ?_) ?_ ?_ (fun r' j h => zRead_o A j h) (fun j a1 a2 => ?_) (fun _ j a1 a2 => ?_) (fun _ j a1 a2 => ?_)
      · by_cases e : 67 ≤ x ∧ x ≤ 70
        · exact mmy x e
        · rw [mmn x e, o3 x x1, j2 x (by omega) (by omega) (by omega) (by omega) x1 x2 x3]
      · rw [mmn _ (by omega), c3, if_neg (by decide), if_neg (by decide), if_neg (by decide), j9 9 (by decide) (by decide) (by decide)]
        exact hC1.1.2.2.2.2.2.2.2.1 r q1 q2
      · rw [mmn _ (by omega), o3 _ (by omega)]; exact j13
      · rw [mmn _ (by omega), c3, zRead_r]
        have hrj := fun j a b => hC1.2.2.2.2.2.1 r j q1 q2 a b
        have : j = 0 ∨ j = 1 ∨ j = 2 ∨ j = 3 ∨ j = 4 ∨ j = 5 ∨ j = 6 ∨ j = 7 ∨ j = 8 := by omega
        rcases this with rfl | rfl | rfl | rfl | rfl | rfl | rfl | rfl | rfl
        · rw [j9 0 (by decide) (by decide) (by decide), hrj 0 (by decide) (by decide)]; rfl
        · rw [j9 1 (by decide) (by decide) (by decide), hrj 1 (by decide) (by decide)]; rfl
        · rw [j10]; rfl
        · rfl
        · rfl
        · rfl
        · rw [j9 6 (by decide) (by decide) (by decide), hrj 6 (by decide) (by decide)]; rfl
        · rw [j11]; rfl
        · rw [j12]; rfl
      · rw [mmn _ (by omega), o3 _ (by omega), j14 j a1 a2, zRead_hi A (by omega)]
      · rw [mmn _ (by omega), o3 _ (by omega), j15 j a1 a2, zRead_hi A (by omega)]
        unfold zSeat
        simp (disch := omega) only [if_neg]
    obtain ⟨g1, g2, g3, g4⟩ := CS_now i2 hzf hCm
    have hk9' : ∀ x, 67 ≤ x → x ≤ 92 → kd1 x ≠ (9, 0) := fun x x1 x2 => by
      rw [(i3 x (by omega)).2]; exact hk9 x x1 x2
    obtain ⟨l1, l2, l3⟩ := CS_out (m' := m3) g1 (fun x hx => (mmn x (by omega)).symm) hk9'
    have kS1 := hK1.2.1
    have m201 : m2 0 1 = S := by rw [j2 0 (by omega) (by omega) (by omega) (by omega) (by omega) (by omega) (by omega)]; exact hn1
    have m2S : m2 S 0 = A.1 0 := by rw [j2 S (by omega) (by omega) (by omega) (by omega) (by omega) (by omega) (by omega)]; exact hC1.2.1
    have m105 : m1 0 5 = 67 := by rw [(i3 0 (by omega)).1]; exact h05
    have m305 : m3 0 5 = 67 := by rw [o3 0 (by omega), j2 0 (by omega) (by omega) (by omega) (by omega) (by omega) (by omega) (by omega)]; exact m105
    have k67 := KD1.1
    refine ⟨m3, kd1, n1, c1, s1, ?_, l1, ?_, fun i => by rw [l2, g3]; exact i4 i, by rw [l3, g4]; omega, by rw [l3, g4]; omega, i7, i8, i9, ?_⟩
    · unfold f_X11_read
      refine qa_fn_eq ?_ (by simp; exact ⟨i7, i8, i9⟩)
      by_cases h9 : A.2.2.1 r 9 = 0
      · have h9' : ¬ A.2.1 (A.2.2.1 r 1) 5 ≤ A.2.2.1 r 2 := fun z => h ⟨h9, z⟩
        simp (disch := omega) [ev_X11_read_0, ev_X11_read_1, B_X11_read_0, B_X11_read_1, x_const, x_iadd, x_isub, x_imul, x_idiv, x_irem, x_ineg, x_dup, x_dup_x1, x_dup2, x_pop, x_goto, x_ifeq, x_ifne, x_iflt, x_ifge, x_ifgt, x_ifle, x_cmpeq, x_cmpne, x_cmplt, x_cmpge, x_cmpgt, x_cmple, x_null, x_nonnull, x_acmpeq, x_acmpne, x_get, x_put, x_putz, x_ald, x_ast, x_bast, x_zast, x_aast, x_alen, x_obj, x_ret, x_retz, x_vret, x_max, x_min, x_copy, x_i2l, qg_none, qg_inl, qg_inr, qg_ite, xr1, xr0, xrE, xri, xl0, xl1, xl2, xl3, xl4, xl5, xl6, xl7, xl8, xl9, xl10, xs0, xs1, xs2, xs3, xs4, xs5, xs6, xs7, xs8, xs9, xs10, xi0, xi1, xi2, xi3, xi4, xi5, xi6, xi7, xi8, xi9, xi10, xc0, xc1, xc2, xc3, xc4, xc5, xc6, xc7, xv1, xv2, xv3, xv4, xv5, xv6, xv7, dT_le, dF_le, dT_lt, dF_lt, hx, hn, hx1, hn1, kS, kS1, h4, k64, ne, rg, ho, kr, kr1, kdd, kb, g9, d9, h9, u2, u5, i1, m105, k67, j1, m201, m2S, cb, m305, ic]
      · simp (disch := omega) [ev_X11_read_0, ev_X11_read_1, B_X11_read_0, B_X11_read_1, x_const, x_iadd, x_isub, x_imul, x_idiv, x_irem, x_ineg, x_dup, x_dup_x1, x_dup2, x_pop, x_goto, x_ifeq, x_ifne, x_iflt, x_ifge, x_ifgt, x_ifle, x_cmpeq, x_cmpne, x_cmplt, x_cmpge, x_cmpgt, x_cmple, x_null, x_nonnull, x_acmpeq, x_acmpne, x_get, x_put, x_putz, x_ald, x_ast, x_bast, x_zast, x_aast, x_alen, x_obj, x_ret, x_retz, x_vret, x_max, x_min, x_copy, x_i2l, qg_none, qg_inl, qg_inr, qg_ite, xr1, xr0, xrE, xri, xl0, xl1, xl2, xl3, xl4, xl5, xl6, xl7, xl8, xl9, xl10, xs0, xs1, xs2, xs3, xs4, xs5, xs6, xs7, xs8, xs9, xs10, xi0, xi1, xi2, xi3, xi4, xi5, xi6, xi7, xi8, xi9, xi10, xc0, xc1, xc2, xc3, xc4, xc5, xc6, xc7, xv1, xv2, xv3, xv4, xv5, xv6, xv7, dT_le, dF_le, dT_lt, dF_lt, hx, hn, hx1, hn1, kS, kS1, h4, k64, ne, rg, ho, kr, kr1, kdd, kb, g9, d9, h9, i1, m105, k67, j1, m201, m2S, cb, m305, ic]
    · intro x hx
      have hn7 : ¬ (67 ≤ x ∧ x ≤ 70) := fun z => by
        have := hk9 x z.1 (by omega)
        obtain ⟨⟨y1, y2, y3, y4⟩, -⟩ := id hD
        have hxx : x = 67 ∨ x = 68 ∨ x = 69 ∨ x = 70 := by omega
        rcases hx with h | h | h | h | h | h
        · omega
        · omega
        · omega
        · omega
        · exact this h
        · rcases hxx with rfl | rfl | rfl | rfl
          · rw [y1] at h; exact absurd h (by decide)
          · rw [y2] at h; exact absurd h (by decide)
          · rw [y3] at h; exact absurd h (by decide)
          · rw [y4] at h; exact absurd h (by decide)
      have hx' : (0 ≤ x ∧ x ≤ 2) ∨ x = 63 ∨ (67 ≤ x ∧ x ≤ 92) ∨ x = -1 ∨ kd x = (9, 0) ∨ (kd x).1 = 102 := by
        rcases hx with h | h | h | h | h | h
        · exact Or.inl h
        · exact Or.inr (Or.inl h)
        · exact Or.inr (Or.inr (Or.inl (by omega)))
        · exact Or.inr (Or.inr (Or.inr (Or.inl h)))
        · exact Or.inr (Or.inr (Or.inr (Or.inr (Or.inl h))))
        · exact Or.inr (Or.inr (Or.inr (Or.inr (Or.inr h))))
      obtain ⟨y1, y2⟩ := (i3.trans g2) x hx'
      exact ⟨by rw [← mmn x hn7]; exact y1, y2⟩
    · refine ⟨KD1, ⟨?_, ?_, ?_⟩, z0, hh, ?_, z3, ⟨htk.1, htk.2.1⟩, fun z j a1 a2 => ?_, fun i a1 a2 => ?_⟩
      · rw [o3 _ (by omega)]; exact j3.1
      · rw [o3 _ (by omega)]; exact j3.2.1
      · rw [o3 _ (by omega)]; exact j3.2.2
      · rw [o3 _ (by omega)]; exact j5
      · rw [o3 _ (by omega)]; exact j7 z j a1 a2
      · rw [o3 70 (by omega), j8 i a1 a2]
        have hE := hC1.2.2.2.2.2.2.2.2 _ (A.2.2.1 r 2 + i) t1 t2 t3 (by omega) (by omega)
        refine ⟨hE.1, fun j b1 b2 => ?_⟩
        have hne := hK1.entry hE.1
        have h79 : ¬ (67 ≤ m1 (S + 5 + 2 * A.2.2.1 r 1) (A.2.2.1 r 2 + i) ∧ m1 (S + 5 + 2 * A.2.2.1 r 1) (A.2.2.1 r 2 + i) ≤ 70) := fun z => hk9' _ z.1 (by omega) hE.1
        rw [← mmn _ h79, hzf _ hne]
        exact hE.2 j b1 b2
