theorem w_E0 {L : Nat} {xs : Nat → Int32} {m0 m1 m2 : Int → Int → Int} {kd0 kd1 kd2 : Int → Nat × Int} {c0 s0 c1 s1 c2 s2 : Nat} (e1 : f_X11_init [(1, 0)] (nm m0 0 z_X11, nk kd0 0 (14, 0), 1, c0 + 1, s0 + 8) = some (.inl none, (m1, kd1, 77, c1, s1))) (e2 : f_X12_init [(1, 77)] (nm m1 77 z_X12, nk kd1 77 (15, 0), 78, c1 + 1, s1 + 28) = some (.inl none, (m2, kd2, 91, c2, s2))) : qa_ev (P_L_law L xs) 0 [(1, -17), (9, 0), (9, 0), (9, 0), (9, 0), (9, 0), (9, 0), (9, 0), (9, 0)] [] (m0, kd0, 0, c0, s0) = qa_ev (P_L_law L xs) 1 [(1, -17), (1, 0), (1, 77), (1, 91), (1, 92), (0, 0), (9, 0), (9, 0), (9, 0)] [] (nm (nm m2 91 (fun _ => 0)) 92 (fun _ => 0), nk (nk kd2 91 (105, 1)) 92 (107, 1), 93, c2 + 1 + 1, s2 + 1 + 1) := by
  simp (disch := omega) [ev_L_law_0, B_L_law_0, x_const, x_iadd, x_isub, x_imul, x_idiv, x_irem, x_ineg, x_dup, x_dup_x1, x_dup2, x_pop, x_goto, x_ifeq, x_ifne, x_iflt, x_ifge, x_ifgt, x_ifle, x_cmpeq, x_cmpne, x_cmplt, x_cmpge, x_cmpgt, x_cmple, x_null, x_nonnull, x_acmpeq, x_acmpne, x_get, x_put, x_putz, x_ald, x_ast, x_bast, x_zast, x_aast, x_alen, x_obj, x_ret, x_retz, x_vret, x_max, x_min, x_copy, x_i2l, qg_none, qg_inl, qg_inr, qg_ite, xr1, xr0, xrE, xri, xl0, xl1, xl2, xl3, xl4, xl5, xl6, xl7, xl8, xl9, xl10, xs0, xs1, xs2, xs3, xs4, xs5, xs6, xs7, xs8, xs9, xs10, xi0, xi1, xi2, xi3, xi4, xi5, xi6, xi7, xi8, xi9, xi10, xc0, xc1, xc2, xc3, xc4, xc5, xc6, xc7, xv1, xv2, xv3, xv4, xv5, xv6, xv7, dT_le, dF_le, dT_lt, dF_lt, x_new, x_newa, nk_hit, nk_no, e1, e2]
theorem w_start {L : Nat} {xs : Nat → Int32} (hL : (L : Int) ≤ 2560) : ∃ m' kd' n' c' s', qa_fn (P_L_law L xs) 9 [(1, -17)] ((fun _ _ => 0), (fun _ => (0, 0)), 0, 0, 0) = some (.inl (some (0, 1)), (m', kd', n', c', s')) ∧ c' ≤ 5000 ∧ s' ≤ 1020000 := by
  obtain ⟨m1, kd1, e1, F⟩ := c_init11 (m := nm (fun _ _ => 0) 0 z_X11) (kd := nk (fun _ => (0, 0)) 0 (14, 0)) (c := 0 + 1) (s := 0 + 8) (nk_hit _ _ _) (fun x hx => nk_no _ _ (by omega)) (nk_no _ _ (by decide))
  have k77 : nk kd1 77 (15, 0) 77 = (15, 0) := nk_hit _ _ _
  have e2 := m_init12 (m := nm m1 77 z_X12) (kd := nk kd1 77 (15, 0)) (c := 0 + 1 + 76 + 1) (s := 0 + 8 + 5726 + 28) k77
  have E := w_E0 (L := L) (xs := xs) e1 e2
  have M := MI_00 k77 (fun i => nm_hit m1 77 z_X12 i)
  have z77 := F.2.2.2.2.2.2.2.2.2.2.2.2.2.1
  have ko : ∀ x, x ≤ 76 ∨ 91 ≤ x → zKZ (nk kd1 77 (15, 0)) x = kd1 x := fun x hx => by rw [zKZ_o (by omega), nk_no _ _ (by omega)]
  have mo : ∀ x, x < 77 → zMZ (zMA (nm m1 77 z_X12)) x = m1 x := fun x hx => by rw [zMZ_o _ hx, nm_nof _ _ (by omega)]
  have KMz := zKZ_M k77
  generalize zMZ (zMA (nm m1 77 z_X12)) = m2 at E M mo
  generalize zKZ (nk kd1 77 (15, 0)) = kd2 at E M ko KMz
  have kk : ∀ x, x < 91 → nk (nk kd2 91 (105, 1)) 92 (107, 1) x = kd2 x := fun x hx => by rw [nk_no _ _ (by omega), nk_no _ _ (by omega)]
  have mk : ∀ x, x < 91 → nm (nm m2 91 (fun _ => 0)) 92 (fun _ => 0) x = m2 x := fun x hx => by rw [nm_nof _ _ (by omega), nm_nof _ _ (by omega)]
  have k91 : nk (nk kd2 91 (105, 1)) 92 (107, 1) 91 = (105, 1) := by rw [nk_no _ _ (by decide), nk_hit]
  have k92 : nk (nk kd2 91 (105, 1)) 92 (107, 1) 92 = (107, 1) := nk_hit _ _ _
  have kz : ∀ x, 93 ≤ x → nk (nk kd2 91 (105, 1)) 92 (107, 1) x = (0, 0) := fun x hx => by rw [nk_no _ _ (by omega), nk_no _ _ (by omega), ko x (by omega)]; exact z77 x (by omega)
  generalize nm (nm m2 91 (fun _ => 0)) 92 (fun _ => 0) = m3 at E mk
  generalize nk (nk kd2 91 (105, 1)) 92 (107, 1) = kd3 at E kk k91 k92 kz
  have C : CI 0 g00 m3 kd3 93 (0 + 1 + 76 + 1 + 13 + 1 + 1) (0 + 8 + 5726 + 28 + 177549 + 1 + 1) := CI_00 F (fun x hx => by rw [mk x (by omega), mo x hx]) (fun x hx => by rw [kk x (by omega), ko x (by omega)]) kz (fun x xa xb => by
    obtain ⟨q77, q78, q79, q80, q81, q82, q83, q84, q85, q86, q87, q88, q89, q90⟩ := KMz
    have : x = 77 ∨ x = 78 ∨ x = 79 ∨ x = 80 ∨ x = 81 ∨ x = 82 ∨ x = 83 ∨ x = 84 ∨ x = 85 ∨ x = 86 ∨ x = 87 ∨ x = 88 ∨ x = 89 ∨ x = 90 ∨ x = 91 ∨ x = 92 := by omega
    rcases this with rfl | rfl | rfl | rfl | rfl | rfl | rfl | rfl | rfl | rfl | rfl | rfl | rfl | rfl | rfl | rfl
    · rw [kk 77 (by decide), q77]; decide
    · rw [kk 78 (by decide), q78]; decide
    · rw [kk 79 (by decide), q79]; simp
    · rw [kk 80 (by decide), q80]; simp
    · rw [kk 81 (by decide), q81]; simp
    · rw [kk 82 (by decide), q82]; simp
    · rw [kk 83 (by decide), q83]; simp
    · rw [kk 84 (by decide), q84]; simp
    · rw [kk 85 (by decide), q85]; simp
    · rw [kk 86 (by decide), q86]; simp
    · rw [kk 87 (by decide), q87]; simp
    · rw [kk 88 (by decide), q88]; simp
    · rw [kk 89 (by decide), q89]; simp
    · rw [kk 90 (by decide), q90]; simp
    · rw [k91]; simp
    · rw [k92]; simp) (by omega) (by omega)
  have W : WI 0 g00 m3 kd3 93 (0 + 1 + 76 + 1 + 13 + 1 + 1) (0 + 8 + 5726 + 28 + 177549 + 1 + 1) := ⟨C, MI_fr M (fun x a b => mk x (by omega)) (fun i _ => by rw [mk 77 (by decide)]) (fun x a b => kk x (by omega)), k91, k92⟩
  obtain ⟨m', kd', n', c', s', f, f1, f2, f3, f4, f5⟩ := w_loop (L := L) (xs := xs) hL 513 0 (9, 0) (9, 0) (9, 0) 0 g00 m3 kd3 93 _ _ rfl GI_00 (by decide) W (by omega)
  exact ⟨m', kd', n', c', s', qa_fn_eq (E.trans f) (by simp), f1, f2⟩
