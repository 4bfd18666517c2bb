theorem x_copyr (ci : Nat) (k : qI) (ls r : List qV) (n dp d sp s : Int) {m : Int → Int → Int} {kd : Int → Nat × Int} {w : Nat × Nat × Nat} (h : ∀ i : Int, sp ≤ i → i < sp + n → m s i = -1 ∨ (kd (m s i)).1 = ci + 1) (hn : sp + n ≤ 100000) : q_copyr ci k ls ((0, n) :: (0, dp) :: (1, d) :: (0, sp) :: (1, s) :: r) (m, kd, w) = q_copy (111 + ci) k ls ((0, n) :: (0, dp) :: (1, d) :: (0, sp) :: (1, s) :: r) (m, kd, w) := by
  unfold q_copyr
  dsimp only
  split
  · rfl
  · rename_i h'
    exact absurd ⟨fun i h1 h2 => h _ h1 h2, hn⟩ h'
def z7 (m : Int → Int → Int) (H H0 : Int) : Int → Int → Int := fun c i => if c = H ∧ 1 ≤ i ∧ i ≤ 7 then m H0 i else m c i
theorem z7_eq {m : Int → Int → Int} {H H0 : Int} : qa_up (qa_up (qa_up (qa_up (qa_up (qa_up (qa_up m H 1 (m H0 1)) H 2 (m H0 2)) H 3 (m H0 3)) H 4 (m H0 4)) H 5 (m H0 5)) H 6 (m H0 6)) H 7 (m H0 7) = z7 m H H0 := by
  funext c i
  unfold qa_up z7
  by_cases hc : c = H
  · simp only [hc, true_and]
    by_cases hi : 1 ≤ i ∧ i ≤ 7
    · rw [if_pos hi]
      have : i = 1 ∨ i = 2 ∨ i = 3 ∨ i = 4 ∨ i = 5 ∨ i = 6 ∨ i = 7 := by omega
      rcases this with rfl | rfl | rfl | rfl | rfl | rfl | rfl <;> rfl
    · rw [if_neg hi, if_neg (by omega), if_neg (by omega), if_neg (by omega), if_neg (by omega), if_neg (by omega), if_neg (by omega), if_neg (by omega)]
  · simp [hc]
theorem c_copyB {m : Int → Int → Int} {kd : Int → Nat × Int} {w : Nat × Nat × Nat} {H H0 X X0 : Int} (h1 : kd H = (6, 0)) (h2 : kd H0 = (6, 0)) (h3 : kd X = (119, 512)) (h4 : kd X0 = (119, 512)) (hne : H ≠ H0) (hX : m H 8 = X) (hX0 : m H0 8 = X0) (hXX : X ≠ X0) (ht : m H0 1 = 0 ∨ m H0 1 = 1) (he : m H0 1 = 1 → (∀ p, m H0 4 ≤ p → p < m H0 5 → (kd (m X0 p)).1 = 9) ∧ 0 ≤ m H0 4 ∧ m H0 5 ≤ 512) :
    ∃ m', f_X2_copyFrom [(1, H), (1, H0)] (m, kd, w) = some (.inl none, (m', kd, w)) ∧ (∀ c, c ≠ H → c ≠ X → m' c = m c) ∧ (∀ j, 1 ≤ j → j ≤ 7 → m' H j = m H0 j) ∧ m' H 0 = m H 0 ∧ m' H 8 = X ∧ (m H0 1 = 1 → ∀ p, m H0 4 ≤ p → p < m H0 5 → m' X p = m X0 p) := by
  have n1 : X ≠ H := fun h => by rw [h, h1] at h3; cases h3
  have n2 : X ≠ H0 := fun h => by rw [h, h2] at h3; cases h3
  have n3 : X0 ≠ H := fun h => by rw [h, h1] at h4; cases h4
  have zc : ∀ c, c ≠ H → z7 m H H0 c = m c := fun c hc => by funext i; exact if_neg (fun z => hc z.1)
  have z0 : z7 m H H0 H 0 = m H 0 := if_neg (by omega)
  have z8 : z7 m H H0 H 8 = X := (if_neg (by omega)).trans hX
  have zj : ∀ j, 1 ≤ j → j ≤ 7 → z7 m H H0 H j = m H0 j := fun j j1 j2 => if_pos ⟨rfl, j1, j2⟩
  have hne' := Ne.symm hne
  have base : m H0 1 = 0 ∨ m H0 5 ≤ m H0 4 → f_X2_copyFrom [(1, H), (1, H0)] (m, kd, w) = some (.inl none, (z7 m H H0, kd, w)) := by
    intro hcase
    rw [← z7_eq]
    unfold f_X2_copyFrom
    refine qa_fn_eq ?_ (by simp)
    rcases ht with ht | ht
    · simp (disch := omega) [ev_X2_copyFrom_0, ev_X2_copyFrom_1, ev_X2_copyFrom_2, B_X2_copyFrom_0, B_X2_copyFrom_1, B_X2_copyFrom_2, x_const, x_iadd, x_isub, x_imul, x_idiv, x_irem, x_ineg, x_dup, x_dup_x1, x_dup2, x_pop, x_goto, x_ifeq, x_ifne, x_iflt, x_ifge, x_ifgt, x_ifle, x_cmpeq, x_cmpne, x_cmplt, x_cmpge, x_cmpgt, x_cmple, x_null, x_nonnull, x_acmpeq, x_acmpne, x_get, x_put, x_putz, x_ald, x_ast, x_bast, x_zast, x_aast, x_alen, x_obj, x_ret, x_retz, x_vret, x_max, x_min, x_copy, x_i2l, qg_none, qg_inl, qg_inr, qg_ite, xr1, xr0, xrE, xri, xl0, xl1, xl2, xl3, xl4, xl5, xl6, xl7, xl8, xl9, xl10, xs0, xs1, xs2, xs3, xs4, xs5, xs6, xs7, xs8, xs9, xs10, xi0, xi1, xi2, xi3, xi4, xi5, xi6, xi7, xi8, xi9, xi10, xc0, xc1, xc2, xc3, xc4, xc5, xc6, xc7, xv1, xv2, xv3, xv4, xv5, xv6, xv7, dT_le, dF_le, dT_lt, dF_lt, dT_eq, dF_eq, qa_up_hit, qa_up_no, h1, h2, ht]
    · have := (he ht).2
      have hcase : m H0 5 ≤ m H0 4 := by omega
      simp (disch := omega) [ev_X2_copyFrom_0, ev_X2_copyFrom_1, ev_X2_copyFrom_2, B_X2_copyFrom_0, B_X2_copyFrom_1, B_X2_copyFrom_2, x_const, x_iadd, x_isub, x_imul, x_idiv, x_irem, x_ineg, x_dup, x_dup_x1, x_dup2, x_pop, x_goto, x_ifeq, x_ifne, x_iflt, x_ifge, x_ifgt, x_ifle, x_cmpeq, x_cmpne, x_cmplt, x_cmpge, x_cmpgt, x_cmple, x_null, x_nonnull, x_acmpeq, x_acmpne, x_get, x_put, x_putz, x_ald, x_ast, x_bast, x_zast, x_aast, x_alen, x_obj, x_ret, x_retz, x_vret, x_max, x_min, x_copy, x_i2l, qg_none, qg_inl, qg_inr, qg_ite, xr1, xr0, xrE, xri, xl0, xl1, xl2, xl3, xl4, xl5, xl6, xl7, xl8, xl9, xl10, xs0, xs1, xs2, xs3, xs4, xs5, xs6, xs7, xs8, xs9, xs10, xi0, xi1, xi2, xi3, xi4, xi5, xi6, xi7, xi8, xi9, xi10, xc0, xc1, xc2, xc3, xc4, xc5, xc6, xc7, xv1, xv2, xv3, xv4, xv5, xv6, xv7, dT_le, dF_le, dT_lt, dF_lt, dT_eq, dF_eq, qa_up_hit, qa_up_no, h1, h2, ht]
  by_cases hcase : m H0 1 = 0 ∨ m H0 5 ≤ m H0 4
  · refine ⟨_, base hcase, fun c c1 _ => zc c c1, zj, z0, z8, fun t p p1 p2 => ?_⟩
    omega
  · have ht1 : m H0 1 = 1 := by omega
    obtain ⟨he1, he2, he3⟩ := he ht1
    have hcp := fun k ls r n dp d (hn : n = m H0 5 - m H0 4) => x_copyr 8 k ls r n dp d (m H0 4) X0 (m := z7 m H H0) (kd := kd) (w := w) (fun i i1 i2 => Or.inr (by rw [zc _ n3]; exact he1 i i1 (by omega))) (by omega)
    refine ⟨qa_cp (z7 m H H0) X0 (m H0 4) X (m H0 4) (m H0 5 - m H0 4), ?_, ?_, ?_, ?_, ?_, ?_⟩
    · simp only [← z7_eq, ht1] at hcp
      rw [← z7_eq]
      unfold f_X2_copyFrom
      refine qa_fn_eq ?_ (by simp)
      simp (disch := omega) [ev_X2_copyFrom_0, ev_X2_copyFrom_1, ev_X2_copyFrom_2, B_X2_copyFrom_0, B_X2_copyFrom_1, B_X2_copyFrom_2, x_const, x_iadd, x_isub, x_imul, x_idiv, x_irem, x_ineg, x_dup, x_dup_x1, x_dup2, x_pop, x_goto, x_ifeq, x_ifne, x_iflt, x_ifge, x_ifgt, x_ifle, x_cmpeq, x_cmpne, x_cmplt, x_cmpge, x_cmpgt, x_cmple, x_null, x_nonnull, x_acmpeq, x_acmpne, x_get, x_put, x_putz, x_ald, x_ast, x_bast, x_zast, x_aast, x_alen, x_obj, x_ret, x_retz, x_vret, x_max, x_min, x_copy, x_i2l, qg_none, qg_inl, qg_inr, qg_ite, xr1, xr0, xrE, xri, xl0, xl1, xl2, xl3, xl4, xl5, xl6, xl7, xl8, xl9, xl10, xs0, xs1, xs2, xs3, xs4, xs5, xs6, xs7, xs8, xs9, xs10, xi0, xi1, xi2, xi3, xi4, xi5, xi6, xi7, xi8, xi9, xi10, xc0, xc1, xc2, xc3, xc4, xc5, xc6, xc7, xv1, xv2, xv3, xv4, xv5, xv6, xv7, dT_le, dF_le, dT_lt, dF_lt, dT_eq, dF_eq, qa_up_hit, qa_up_no, h1, h2, h3, h4, hX, hX0, ht1, hcp]
    · intro c c1 c2
      funext i
      unfold qa_cp
      rw [if_neg (fun z => c2 z.1), zc c c1]
    · intro j j1 j2
      unfold qa_cp
      rw [if_neg (fun z => n1 z.1.symm)]
      exact zj j j1 j2
    · unfold qa_cp
      rw [if_neg (fun z => n1 z.1.symm)]
      exact z0
    · unfold qa_cp
      rw [if_neg (fun z => n1 z.1.symm)]
      exact z8
    · intro _ p p1 p2
      unfold qa_cp
      rw [if_pos ⟨rfl, by omega, by omega⟩, zc _ n3]
      congr 1
      omega
def z8 (m : Int → Int → Int) (H H0 : Int) : Int → Int → Int := fun c i => if c = H ∧ 0 ≤ i ∧ i ≤ 8 then m H0 i else m c i
theorem z8_eq {m : Int → Int → Int} {H H0 : Int} : qa_up (qa_up (qa_up (qa_up (qa_up (qa_up (qa_up (qa_up (qa_up m H 0 (m H0 0)) H 1 (m H0 1)) H 2 (m H0 2)) H 3 (m H0 3)) H 4 (m H0 4)) H 5 (m H0 5)) H 6 (m H0 6)) H 7 (m H0 7)) H 8 (m H0 8) = z8 m H H0 := by
  funext c i
  unfold qa_up z8
  by_cases hc : c = H
  · simp only [hc, true_and]
    by_cases hi : 0 ≤ i ∧ i ≤ 8
    · rw [if_pos hi]
      have : i = 0 ∨ i = 1 ∨ i = 2 ∨ i = 3 ∨ i = 4 ∨ i = 5 ∨ i = 6 ∨ i = 7 ∨ i = 8 := by omega
      rcases this with rfl | rfl | rfl | rfl | rfl | rfl | rfl | rfl | rfl <;> rfl
    · rw [if_neg hi, if_neg (by omega), if_neg (by omega), if_neg (by omega), if_neg (by omega), if_neg (by omega), if_neg (by omega), if_neg (by omega), if_neg (by omega), if_neg (by omega)]
  · simp [hc]
def z6 (m : Int → Int → Int) (H H0 : Int) : Int → Int → Int := fun c i => if c = H ∧ 0 ≤ i ∧ i ≤ 6 then m H0 i else m c i
theorem z6_eq {m : Int → Int → Int} {H H0 : Int} : qa_up (qa_up (qa_up (qa_up (qa_up (qa_up (qa_up m H 0 (m H0 0)) H 1 (m H0 1)) H 2 (m H0 2)) H 3 (m H0 3)) H 4 (m H0 4)) H 5 (m H0 5)) H 6 (m H0 6) = z6 m H H0 := by
  funext c i
  unfold qa_up z6
  by_cases hc : c = H
  · simp only [hc, true_and]
    by_cases hi : 0 ≤ i ∧ i ≤ 6
    · rw [if_pos hi]
      have : i = 0 ∨ i = 1 ∨ i = 2 ∨ i = 3 ∨ i = 4 ∨ i = 5 ∨ i = 6 := by omega
      rcases this with rfl | rfl | rfl | rfl | rfl | rfl | rfl <;> rfl
    · rw [if_neg hi, if_neg (by omega), if_neg (by omega), if_neg (by omega), if_neg (by omega), if_neg (by omega), if_neg (by omega), if_neg (by omega)]
  · simp [hc]
theorem c_copyD {m : Int → Int → Int} {kd : Int → Nat × Int} {w : Nat × Nat × Nat} {D D0 L L0 : Int} (h1 : kd D = (7, 0)) (h2 : kd D0 = (7, 0)) (h3 : kd L = (101, 10)) (h4 : kd L0 = (101, 10)) (hne : D ≠ D0) (hL : m D 7 = L) (hL0 : m D0 7 = L0) (hLL : L ≠ L0) :
    ∃ m', f_X3_copyFrom [(1, D), (1, D0)] (m, kd, w) = some (.inl none, (m', kd, w)) ∧ (∀ c, c ≠ D → c ≠ L → m' c = m c) ∧ (∀ j, 0 ≤ j → j ≤ 6 → m' D j = m D0 j) ∧ m' D 7 = L ∧ ∀ j, 0 ≤ j → j < 10 → m' L j = m L0 j := by
  have n1 : L ≠ D := fun h => by rw [h, h1] at h3; cases h3
  have n2 : L ≠ D0 := fun h => by rw [h, h2] at h3; cases h3
  have n3 : L0 ≠ D := fun h => by rw [h, h1] at h4; cases h4
  have hne' := Ne.symm hne
  refine ⟨qa_cp (z6 m D D0) L0 0 L 0 10, ?_, ?_, ?_, ?_, ?_⟩
  · rw [← z6_eq]
    unfold f_X3_copyFrom
    refine qa_fn_eq ?_ (by simp)
    simp (disch := omega) [ev_X3_copyFrom_0, ev_X3_copyFrom_1, B_X3_copyFrom_0, B_X3_copyFrom_1, x_const, x_iadd, x_isub, x_imul, x_idiv, x_irem, x_ineg, x_dup, x_dup_x1, x_dup2, x_pop, x_goto, x_ifeq, x_ifne, x_iflt, x_ifge, x_ifgt, x_ifle, x_cmpeq, x_cmpne, x_cmplt, x_cmpge, x_cmpgt, x_cmple, x_null, x_nonnull, x_acmpeq, x_acmpne, x_get, x_put, x_putz, x_ald, x_ast, x_bast, x_zast, x_aast, x_alen, x_obj, x_ret, x_retz, x_vret, x_max, x_min, x_copy, x_i2l, qg_none, qg_inl, qg_inr, qg_ite, xr1, xr0, xrE, xri, xl0, xl1, xl2, xl3, xl4, xl5, xl6, xl7, xl8, xl9, xl10, xs0, xs1, xs2, xs3, xs4, xs5, xs6, xs7, xs8, xs9, xs10, xi0, xi1, xi2, xi3, xi4, xi5, xi6, xi7, xi8, xi9, xi10, xc0, xc1, xc2, xc3, xc4, xc5, xc6, xc7, xv1, xv2, xv3, xv4, xv5, xv6, xv7, dT_le, dF_le, dT_lt, dF_lt, dT_eq, dF_eq, qa_up_hit, qa_up_no, h1, h2, h3, h4, hL, hL0]
  · intro c c1 c2
    funext i
    unfold qa_cp
    rw [if_neg (fun z => c2 z.1)]
    exact if_neg (fun z => c1 z.1)
  · intro j j1 j2
    unfold qa_cp
    rw [if_neg (fun z => n1 z.1.symm)]
    exact if_pos ⟨rfl, j1, j2⟩
  · unfold qa_cp
    rw [if_neg (fun z => n1 z.1.symm)]
    exact (if_neg (by omega)).trans hL
  · intro j j1 j2
    unfold qa_cp
    rw [if_pos ⟨rfl, by omega, by omega⟩]
    refine (if_neg (fun z => n3 z.1)).trans ?_
    congr 1
    omega
theorem c_copyR {m : Int → Int → Int} {kd : Int → Nat × Int} {w : Nat × Nat × Nat} {R R0 D D0 L L0 : Int} (k1 : kd R = (10, 0)) (k2 : kd R0 = (10, 0)) (h1 : kd D = (7, 0)) (h2 : kd D0 = (7, 0)) (h3 : kd L = (101, 10)) (h4 : kd L0 = (101, 10)) (hRR : R ≠ R0) (hR : m R 9 = D) (hR0 : m R0 9 = D0) (hne : D ≠ D0) (hL : m D 7 = L) (hL0 : m D0 7 = L0) (hLL : L ≠ L0) (ht : m R0 0 = 0 ∨ m R0 0 = 1) :
    ∃ m', f_X6_copyFrom [(1, R), (1, R0)] (m, kd, w) = some (.inl none, (m', kd, w)) ∧ (∀ c, c ≠ R → c ≠ D → c ≠ L → m' c = m c) ∧ (∀ j, 0 ≤ j → j ≤ 8 → m' R j = m R0 j) ∧ m' R 9 = D ∧ m' D 7 = L ∧ (m R0 0 = 1 → (∀ j, 0 ≤ j → j ≤ 6 → m' D j = m D0 j) ∧ ∀ j, 0 ≤ j → j < 10 → m' L j = m L0 j) := by
  have a1 : D ≠ R := fun h => by rw [h, k1] at h1; cases h1
  have a2 : D0 ≠ R := fun h => by rw [h, k1] at h2; cases h2
  have a3 : L ≠ R := fun h => by rw [h, k1] at h3; cases h3
  have a4 : L0 ≠ R := fun h => by rw [h, k1] at h4; cases h4
  have hRR' := Ne.symm hRR
  have zc : ∀ c, c ≠ R → z8 m R R0 c = m c := fun c hc => by funext i; exact if_neg (fun z => hc z.1)
  have zj : ∀ j, 0 ≤ j → j ≤ 8 → z8 m R R0 R j = m R0 j := fun j j1 j2 => if_pos ⟨rfl, j1, j2⟩
  have z9 : z8 m R R0 R 9 = D := (if_neg (by omega)).trans hR
  by_cases ht0 : m R0 0 = 0
  · refine ⟨z8 m R R0, ?_, fun c c1 _ _ => zc c c1, zj, z9, by rw [zc _ a1]; exact hL, fun h => by omega⟩
    rw [← z8_eq]
    unfold f_X6_copyFrom
    refine qa_fn_eq ?_ (by simp)
    simp (disch := omega) [ev_X6_copyFrom_0, ev_X6_copyFrom_1, ev_X6_copyFrom_2, B_X6_copyFrom_0, B_X6_copyFrom_1, B_X6_copyFrom_2, x_const, x_iadd, x_isub, x_imul, x_idiv, x_irem, x_ineg, x_dup, x_dup_x1, x_dup2, x_pop, x_goto, x_ifeq, x_ifne, x_iflt, x_ifge, x_ifgt, x_ifle, x_cmpeq, x_cmpne, x_cmplt, x_cmpge, x_cmpgt, x_cmple, x_null, x_nonnull, x_acmpeq, x_acmpne, x_get, x_put, x_putz, x_ald, x_ast, x_bast, x_zast, x_aast, x_alen, x_obj, x_ret, x_retz, x_vret, x_max, x_min, x_copy, x_i2l, qg_none, qg_inl, qg_inr, qg_ite, xr1, xr0, xrE, xri, xl0, xl1, xl2, xl3, xl4, xl5, xl6, xl7, xl8, xl9, xl10, xs0, xs1, xs2, xs3, xs4, xs5, xs6, xs7, xs8, xs9, xs10, xi0, xi1, xi2, xi3, xi4, xi5, xi6, xi7, xi8, xi9, xi10, xc0, xc1, xc2, xc3, xc4, xc5, xc6, xc7, xv1, xv2, xv3, xv4, xv5, xv6, xv7, dT_le, dF_le, dT_lt, dF_lt, dT_eq, dF_eq, qa_up_hit, qa_up_no, k1, k2, ht0]
  · have ht1 : m R0 0 = 1 := by omega
    obtain ⟨m', i1, i2, i3, i4, i5⟩ := c_copyD (m := z8 m R R0) (w := w) h1 h2 h3 h4 hne (by rw [zc _ a1]; exact hL) (by rw [zc _ a2]; exact hL0) hLL
    refine ⟨m', ?_, ?_, ?_, ?_, i4, fun _ => ⟨?_, ?_⟩⟩
    · rw [← z8_eq, ht1] at i1
      unfold f_X6_copyFrom
      refine qa_fn_eq ?_ (by simp)
      simp (disch := omega) [ev_X6_copyFrom_0, ev_X6_copyFrom_1, ev_X6_copyFrom_2, B_X6_copyFrom_0, B_X6_copyFrom_1, B_X6_copyFrom_2, x_const, x_iadd, x_isub, x_imul, x_idiv, x_irem, x_ineg, x_dup, x_dup_x1, x_dup2, x_pop, x_goto, x_ifeq, x_ifne, x_iflt, x_ifge, x_ifgt, x_ifle, x_cmpeq, x_cmpne, x_cmplt, x_cmpge, x_cmpgt, x_cmple, x_null, x_nonnull, x_acmpeq, x_acmpne, x_get, x_put, x_putz, x_ald, x_ast, x_bast, x_zast, x_aast, x_alen, x_obj, x_ret, x_retz, x_vret, x_max, x_min, x_copy, x_i2l, qg_none, qg_inl, qg_inr, qg_ite, xr1, xr0, xrE, xri, xl0, xl1, xl2, xl3, xl4, xl5, xl6, xl7, xl8, xl9, xl10, xs0, xs1, xs2, xs3, xs4, xs5, xs6, xs7, xs8, xs9, xs10, xi0, xi1, xi2, xi3, xi4, xi5, xi6, xi7, xi8, xi9, xi10, xc0, xc1, xc2, xc3, xc4, xc5, xc6, xc7, xv1, xv2, xv3, xv4, xv5, xv6, xv7, dT_le, dF_le, dT_lt, dF_lt, dT_eq, dF_eq, qa_up_hit, qa_up_no, k1, k2, ht1, hR, hR0, h1, i1]
    · intro c c1 c2 c3
      rw [i2 c c2 c3, zc c c1]
    · intro j j1 j2
      rw [i2 R (Ne.symm a1) (Ne.symm a3)]
      exact zj j j1 j2
    · rw [i2 R (Ne.symm a1) (Ne.symm a3)]
      exact z9
    · intro j j1 j2
      rw [i3 j j1 j2, zc _ a2]
    · intro j j1 j2
      rw [i5 j j1 j2, zc _ a4]
def zapart (S S0 : Int) : Prop := S + 30 ≤ S0 ∨ S0 + 30 ≤ S
theorem c_copyS {m : Int → Int → Int} {kd : Int → Nat × Int} {w : Nat × Nat × Nat} {A : zA} {S S0 : Int} (hK : KS kd S) (hM : MS m S) (hK0 : KS kd S0) (hC : RC A m kd S0) {M : Int} (hW : zW M A) (hap : zapart S S0) : ∃ m', f_X9_copyFrom [(1, S), (1, S0)] (m, kd, w) = some (.inl none, (m', kd, w)) ∧ RC A m' kd S ∧ zfr m m' S := by
  unfold zapart at hap
  obtain ⟨kN, kS, kC, kV, kW, kB, kE, kR, kD, kL⟩ := id hK
  obtain ⟨xN, xS, xC, xV, xW, xB, xE, xR, xD, xL⟩ := id hK0
  obtain ⟨⟨f2, f3, f4, fV, fW, f0, f8, f9, f7⟩, e0, e1, eC, eB, eR, eD, eL, eE⟩ := id hC
  have loop2 : ∀ (n : Nat) (k : Int) (mk : Int → Int → Int), 0 ≤ k → k + n = 6 → zfr m mk S → MS mk S → mk S 0 = A.1 0 → mk S 1 = A.1 1 → (∀ i, 0 ≤ i → i < 4 → mk (S + 1) i = A.1 (2 + i)) → (∀ b j, 0 ≤ b → b < 4 → 1 ≤ j → j ≤ 7 → mk (S + 4 + 2 * b) j = A.2.1 b j) → (∀ b p, 0 ≤ b → b < 4 → A.2.1 b 1 = 1 → A.2.1 b 4 ≤ p → p < A.2.1 b 5 → mk (S + 5 + 2 * b) p = m (S0 + 5 + 2 * b) p) →
      (∀ r j, 0 ≤ r → r < k → 0 ≤ j → j ≤ 8 → mk (S + 12 + 3 * r) j = A.2.2.1 r j) → (∀ r j, 0 ≤ r → r < k → A.2.2.1 r 0 = 1 → 0 ≤ j → j ≤ 6 → mk (S + 13 + 3 * r) j = A.2.2.1 r (9 + j)) → (∀ r j, 0 ≤ r → r < k → A.2.2.1 r 0 = 1 → 0 ≤ j → j < 10 → mk (S + 14 + 3 * r) j = A.2.2.1 r (16 + j)) →
      ∃ m', qa_ev P_X9_copyFrom 3 [(1, S), (1, S0), (0, k)] [] (mk, kd, w) = some (.inl none, (m', kd, w)) ∧ RC A m' kd S ∧ zfr m m' S := by
    intro n
    induction n with
    | zero =>
      intro k mk h1 h2 hf hMk g0 g1 gC gB gE gR gD gL
      obtain rfl : k = 6 := by omega
      refine ⟨mk, ?_, ⟨hMk, g0, g1, gC, gB, gR, gD, gL, fun b p b1 b2 bt p1 p2 => ?_⟩, hf⟩
      · rw [ev_X9_copyFrom_3]
        simp (disch := omega) [ev_X9_copyFrom_0, ev_X9_copyFrom_1, ev_X9_copyFrom_2, ev_X9_copyFrom_4, B_X9_copyFrom_0, B_X9_copyFrom_1, B_X9_copyFrom_2, B_X9_copyFrom_3, B_X9_copyFrom_4, x_const, x_iadd, x_isub, x_imul, x_idiv, x_irem, x_ineg, x_dup, x_dup_x1, x_dup2, x_pop, x_goto, x_ifeq, x_ifne, x_iflt, x_ifge, x_ifgt, x_ifle, x_cmpeq, x_cmpne, x_cmplt, x_cmpge, x_cmpgt, x_cmple, x_null, x_nonnull, x_acmpeq, x_acmpne, x_get, x_put, x_putz, x_ald, x_ast, x_bast, x_zast, x_aast, x_alen, x_obj, x_ret, x_retz, x_vret, x_max, x_min, x_copy, x_i2l, qg_none, qg_inl, qg_inr, qg_ite, xr1, xr0, xrE, xri, xl0, xl1, xl2, xl3, xl4, xl5, xl6, xl7, xl8, xl9, xl10, xs0, xs1, xs2, xs3, xs4, xs5, xs6, xs7, xs8, xs9, xs10, xi0, xi1, xi2, xi3, xi4, xi5, xi6, xi7, xi8, xi9, xi10, xc0, xc1, xc2, xc3, xc4, xc5, xc6, xc7, xv1, xv2, xv3, xv4, xv5, xv6, xv7, dT_le, dF_le, dT_lt, dF_lt]
      · rw [gE b p b1 b2 bt p1 p2]
        have := eE b p b1 b2 bt p1 p2
        refine ⟨this.1, fun j j1 j2 => ?_⟩
        rw [hf _ (hK.entry this.1)]
        exact this.2 j j1 j2
    | succ n ih =>
      intro k mk h1 h2 hf hMk g0 g1 gC gB gE gR gD gL
      obtain ⟨F2, F3, F4, FV, FW, F0, F8, F9, F7⟩ := id hMk
      obtain ⟨m1, i1, i2, i3, i4, i5, i6⟩ := c_copyR (m := mk) (w := w) (kR k h1 (by omega)) (xR k h1 (by omega)) (kD k h1 (by omega)) (xD k h1 (by omega)) (kL k h1 (by omega)) (xL k h1 (by omega)) (by omega) (F9 k h1 (by omega)) (by rw [hf _ (by omega)]; exact f9 k h1 (by omega)) (by omega) (F7 k h1 (by omega)) (by rw [hf _ (by omega)]; exact f7 k h1 (by omega)) (by omega) (by rw [hf _ (by omega), eR k 0 h1 (by omega) (by decide) (by decide)]; exact hW.rt h1 (by omega))
      have far : ∀ c, c < S + 12 + 3 * k ∨ S + 15 + 3 * k ≤ c → m1 c = mk c := fun c hc => i2 c (by omega) (by omega) (by omega)
      have s0 : mk (S0 + 12 + 3 * k) = m (S0 + 12 + 3 * k) := hf _ (by omega)
      have s1 : mk (S0 + 13 + 3 * k) = m (S0 + 13 + 3 * k) := hf _ (by omega)
      have s2 : mk (S0 + 14 + 3 * k) = m (S0 + 14 + 3 * k) := hf _ (by omega)
      obtain ⟨m', j1, j2, j3⟩ := ih (k + 1) m1 (by omega) (by omega) (fun c hc => by rw [far c (by omega)]; exact hf c hc)
        ⟨by rw [far _ (by omega)]; exact F2, by rw [far _ (by omega)]; exact F3, by rw [far _ (by omega)]; exact F4, fun b b1 b2 => by rw [far _ (by omega)]; exact FV b b1 b2, fun r r1 r2 => by rw [far _ (by omega)]; exact FW r r1 r2, fun b b1 b2 => by rw [far _ (by omega)]; exact F0 b b1 b2, fun b b1 b2 => by rw [far _ (by omega)]; exact F8 b b1 b2, fun r r1 r2 => by
          by_cases h : r = k
          · rw [h]; exact i4
          · rw [far _ (by omega)]; exact F9 r r1 r2, fun r r1 r2 => by
          by_cases h : r = k
          · rw [h]; exact i5
          · rw [far _ (by omega)]; exact F7 r r1 r2⟩
        (by rw [far _ (by omega)]; exact g0) (by rw [far _ (by omega)]; exact g1) (fun i q1 q2 => by rw [far _ (by omega)]; exact gC i q1 q2) (fun b j b1 b2 q1 q2 => by rw [far _ (by omega)]; exact gB b j b1 b2 q1 q2) (fun b p b1 b2 bt p1 p2 => by rw [far _ (by omega)]; exact gE b p b1 b2 bt p1 p2)
        (fun r j r1 r2 q1 q2 => by
          by_cases h : r = k
          · rw [h, i3 j q1 q2, s0]; exact eR k j h1 (by omega) q1 q2
          · rw [far _ (by omega)]; exact gR r j r1 (by omega) q1 q2)
        (fun r j r1 r2 rt q1 q2 => by
          by_cases h : r = k
          · rw [h] at rt ⊢
            rw [(i6 (by rw [s0, eR k 0 h1 (by omega) (by decide) (by decide)]; exact rt)).1 j q1 q2, s1]; exact eD k j h1 (by omega) rt q1 q2
          · rw [far _ (by omega)]; exact gD r j r1 (by omega) rt q1 q2)
        (fun r j r1 r2 rt q1 q2 => by
          by_cases h : r = k
          · rw [h] at rt ⊢
            rw [(i6 (by rw [s0, eR k 0 h1 (by omega) (by decide) (by decide)]; exact rt)).2 j q1 q2, s2]; exact eL k j h1 (by omega) rt q1 q2
          · rw [far _ (by omega)]; exact gL r j r1 (by omega) rt q1 q2)
      refine ⟨m', ?_, j2, j3⟩
      rw [ev_X9_copyFrom_3]
      have t4 : mk S0 4 = S0 + 3 := by rw [hf _ (by omega)]; exact f4
      have tW : ∀ r, 0 ≤ r → r < 6 → mk (S0 + 3) r = S0 + 12 + 3 * r := fun r r1 r2 => by rw [hf _ (by omega)]; exact fW r r1 r2
      simp (disch := omega) [ev_X9_copyFrom_0, ev_X9_copyFrom_1, ev_X9_copyFrom_2, ev_X9_copyFrom_4, B_X9_copyFrom_0, B_X9_copyFrom_1, B_X9_copyFrom_2, B_X9_copyFrom_3, B_X9_copyFrom_4, x_const, x_iadd, x_isub, x_imul, x_idiv, x_irem, x_ineg, x_dup, x_dup_x1, x_dup2, x_pop, x_goto, x_ifeq, x_ifne, x_iflt, x_ifge, x_ifgt, x_ifle, x_cmpeq, x_cmpne, x_cmplt, x_cmpge, x_cmpgt, x_cmple, x_null, x_nonnull, x_acmpeq, x_acmpne, x_get, x_put, x_putz, x_ald, x_ast, x_bast, x_zast, x_aast, x_alen, x_obj, x_ret, x_retz, x_vret, x_max, x_min, x_copy, x_i2l, qg_none, qg_inl, qg_inr, qg_ite, xr1, xr0, xrE, xri, xl0, xl1, xl2, xl3, xl4, xl5, xl6, xl7, xl8, xl9, xl10, xs0, xs1, xs2, xs3, xs4, xs5, xs6, xs7, xs8, xs9, xs10, xi0, xi1, xi2, xi3, xi4, xi5, xi6, xi7, xi8, xi9, xi10, xc0, xc1, xc2, xc3, xc4, xc5, xc6, xc7, xv1, xv2, xv3, xv4, xv5, xv6, xv7, dT_le, dF_le, dT_lt, dF_lt, kS, xS, kW, xW, kR, F4, FW, t4, tW, i1, j1]
  have loop1 : ∀ (n : Nat) (k : Int) (mk : Int → Int → Int), 0 ≤ k → k + n = 4 → zfr m mk S → MS mk S → mk S 0 = A.1 0 → mk S 1 = A.1 1 → (∀ i, 0 ≤ i → i < 4 → mk (S + 1) i = A.1 (2 + i)) → (∀ b j, 0 ≤ b → b < k → 1 ≤ j → j ≤ 7 → mk (S + 4 + 2 * b) j = A.2.1 b j) → (∀ b p, 0 ≤ b → b < k → A.2.1 b 1 = 1 → A.2.1 b 4 ≤ p → p < A.2.1 b 5 → mk (S + 5 + 2 * b) p = m (S0 + 5 + 2 * b) p) →
      ∃ m', qa_ev P_X9_copyFrom 1 [(1, S), (1, S0), (0, k)] [] (mk, kd, w) = some (.inl none, (m', kd, w)) ∧ RC A m' kd S ∧ zfr m m' S := by
    intro n
    induction n with
    | zero =>
      intro k mk h1 h2 hf hMk g0 g1 gC gB gE
      obtain rfl : k = 4 := by omega
      obtain ⟨m', j1, j2, j3⟩ := loop2 6 0 mk (by decide) (by decide) hf hMk g0 g1 gC gB gE (fun r j r1 r2 => by omega) (fun r j r1 r2 => by omega) (fun r j r1 r2 => by omega)
      refine ⟨m', ?_, j2, j3⟩
      rw [ev_X9_copyFrom_1]
      simp (disch := omega) [ev_X9_copyFrom_0, ev_X9_copyFrom_2, ev_X9_copyFrom_4, B_X9_copyFrom_0, B_X9_copyFrom_1, B_X9_copyFrom_2, B_X9_copyFrom_3, B_X9_copyFrom_4, x_const, x_iadd, x_isub, x_imul, x_idiv, x_irem, x_ineg, x_dup, x_dup_x1, x_dup2, x_pop, x_goto, x_ifeq, x_ifne, x_iflt, x_ifge, x_ifgt, x_ifle, x_cmpeq, x_cmpne, x_cmplt, x_cmpge, x_cmpgt, x_cmple, x_null, x_nonnull, x_acmpeq, x_acmpne, x_get, x_put, x_putz, x_ald, x_ast, x_bast, x_zast, x_aast, x_alen, x_obj, x_ret, x_retz, x_vret, x_max, x_min, x_copy, x_i2l, qg_none, qg_inl, qg_inr, qg_ite, xr1, xr0, xrE, xri, xl0, xl1, xl2, xl3, xl4, xl5, xl6, xl7, xl8, xl9, xl10, xs0, xs1, xs2, xs3, xs4, xs5, xs6, xs7, xs8, xs9, xs10, xi0, xi1, xi2, xi3, xi4, xi5, xi6, xi7, xi8, xi9, xi10, xc0, xc1, xc2, xc3, xc4, xc5, xc6, xc7, xv1, xv2, xv3, xv4, xv5, xv6, xv7, dT_le, dF_le, dT_lt, dF_lt]
      exact j1
    | succ n ih =>
      intro k mk h1 h2 hf hMk g0 g1 gC gB gE
      obtain ⟨F2, F3, F4, FV, FW, F0, F8, F9, F7⟩ := id hMk
      have s0 : mk (S0 + 4 + 2 * k) = m (S0 + 4 + 2 * k) := hf _ (by omega)
      have s1 : mk (S0 + 5 + 2 * k) = m (S0 + 5 + 2 * k) := hf _ (by omega)
      have v := fun j j1 j2 => eB k j h1 (by omega) j1 j2
      obtain ⟨m1, i1, i2, i3, i4, i5, i6⟩ := c_copyB (m := mk) (w := w) (kB k h1 (by omega)) (xB k h1 (by omega)) (kE k h1 (by omega)) (xE k h1 (by omega)) (by omega) (F8 k h1 (by omega)) (by rw [s0]; exact f8 k h1 (by omega)) (by omega) (by rw [s0, v 1 (by decide) (by decide)]; exact hW.bt h1 (by omega)) (by
        rw [s0, s1, v 1 (by decide) (by decide), v 4 (by decide) (by decide), v 5 (by decide) (by decide)]
        intro ht
        have hbn := hW.bn ⟨h1, by omega, ht⟩
        exact ⟨fun p p1 p2 => by rw [(eE k p h1 (by omega) ht p1 p2).1], hbn.1, hbn.2.2.1⟩)
      have far : ∀ c, c ≠ S + 4 + 2 * k → c ≠ S + 5 + 2 * k → m1 c = mk c := i2
      obtain ⟨m', j1, j2, j3⟩ := ih (k + 1) m1 (by omega) (by omega) (fun c hc => by rw [far c (by omega) (by omega)]; exact hf c hc)
        ⟨by rw [far _ (by omega) (by omega)]; exact F2, by rw [far _ (by omega) (by omega)]; exact F3, by rw [far _ (by omega) (by omega)]; exact F4, fun b b1 b2 => by rw [far _ (by omega) (by omega)]; exact FV b b1 b2, fun r r1 r2 => by rw [far _ (by omega) (by omega)]; exact FW r r1 r2, fun b b1 b2 => by
          by_cases h : b = k
          · rw [h, i4]; exact F0 k h1 (by omega)
          · rw [far _ (by omega) (by omega)]; exact F0 b b1 b2, fun b b1 b2 => by
          by_cases h : b = k
          · rw [h]; exact i5
          · rw [far _ (by omega) (by omega)]; exact F8 b b1 b2, fun r r1 r2 => by rw [far _ (by omega) (by omega)]; exact F9 r r1 r2, fun r r1 r2 => by rw [far _ (by omega) (by omega)]; exact F7 r r1 r2⟩
        (by rw [far _ (by omega) (by omega)]; exact g0) (by rw [far _ (by omega) (by omega)]; exact g1) (fun i q1 q2 => by rw [far _ (by omega) (by omega)]; exact gC i q1 q2)
        (fun b j b1 b2 q1 q2 => by
          by_cases h : b = k
          · rw [h, i3 j q1 q2, s0]; exact v j q1 q2
          · rw [far _ (by omega) (by omega)]; exact gB b j b1 (by omega) q1 q2)
        (fun b p b1 b2 bt p1 p2 => by
          by_cases h : b = k
          · rw [h] at bt p1 p2 ⊢
            rw [i6 (by rw [s0, v 1 (by decide) (by decide)]; exact bt) p (by rw [s0, v 4 (by decide) (by decide)]; exact p1) (by rw [s0, v 5 (by decide) (by decide)]; exact p2), s1]
          · rw [far _ (by omega) (by omega)]; exact gE b p b1 (by omega) bt p1 p2)
      refine ⟨m', ?_, j2, j3⟩
      rw [ev_X9_copyFrom_1]
      have t3 : mk S0 3 = S0 + 2 := by rw [hf _ (by omega)]; exact f3
      have tV : ∀ b, 0 ≤ b → b < 4 → mk (S0 + 2) b = S0 + 4 + 2 * b := fun r r1 r2 => by rw [hf _ (by omega)]; exact fV r r1 r2
      simp (disch := omega) [ev_X9_copyFrom_0, ev_X9_copyFrom_2, ev_X9_copyFrom_4, B_X9_copyFrom_0, B_X9_copyFrom_1, B_X9_copyFrom_2, B_X9_copyFrom_3, B_X9_copyFrom_4, x_const, x_iadd, x_isub, x_imul, x_idiv, x_irem, x_ineg, x_dup, x_dup_x1, x_dup2, x_pop, x_goto, x_ifeq, x_ifne, x_iflt, x_ifge, x_ifgt, x_ifle, x_cmpeq, x_cmpne, x_cmplt, x_cmpge, x_cmpgt, x_cmple, x_null, x_nonnull, x_acmpeq, x_acmpne, x_get, x_put, x_putz, x_ald, x_ast, x_bast, x_zast, x_aast, x_alen, x_obj, x_ret, x_retz, x_vret, x_max, x_min, x_copy, x_i2l, qg_none, qg_inl, qg_inr, qg_ite, xr1, xr0, xrE, xri, xl0, xl1, xl2, xl3, xl4, xl5, xl6, xl7, xl8, xl9, xl10, xs0, xs1, xs2, xs3, xs4, xs5, xs6, xs7, xs8, xs9, xs10, xi0, xi1, xi2, xi3, xi4, xi5, xi6, xi7, xi8, xi9, xi10, xc0, xc1, xc2, xc3, xc4, xc5, xc6, xc7, xv1, xv2, xv3, xv4, xv5, xv6, xv7, dT_le, dF_le, dT_lt, dF_lt, kS, xS, kV, xV, kB, F3, FV, t3, tV, i1, j1]
  obtain ⟨F2, F3, F4, FV, FW, F0, F8, F9, F7⟩ := id hM
  have far : ∀ c i, (c ≠ S ∨ (i ≠ 0 ∧ i ≠ 1)) → c ≠ S + 1 → qa_cp (qa_up (qa_up m S 0 (m S0 0)) S 1 (m S0 1)) (S0 + 1) 0 (S + 1) 0 4 c i = m c i := fun c i h1 h2 => by
    unfold qa_cp
    rw [if_neg (fun z => h2 z.1), qa_up_no _ (by omega), qa_up_no _ (by omega)]
  obtain ⟨m', j1, j2, j3⟩ := loop1 4 0 (qa_cp (qa_up (qa_up m S 0 (m S0 0)) S 1 (m S0 1)) (S0 + 1) 0 (S + 1) 0 4) (by decide) (by decide) (fun c hc => by funext i; exact far c i (by omega) (by omega))
    ⟨by rw [far _ _ (by omega) (by omega)]; exact F2, by rw [far _ _ (by omega) (by omega)]; exact F3, by rw [far _ _ (by omega) (by omega)]; exact F4, fun b b1 b2 => by rw [far _ _ (by omega) (by omega)]; exact FV b b1 b2, fun r r1 r2 => by rw [far _ _ (by omega) (by omega)]; exact FW r r1 r2, fun b b1 b2 => by rw [far _ _ (by omega) (by omega)]; exact F0 b b1 b2, fun b b1 b2 => by rw [far _ _ (by omega) (by omega)]; exact F8 b b1 b2, fun r r1 r2 => by rw [far _ _ (by omega) (by omega)]; exact F9 r r1 r2, fun r r1 r2 => by rw [far _ _ (by omega) (by omega)]; exact F7 r r1 r2⟩
    (by unfold qa_cp; rw [if_neg (by omega), qa_up_no _ (by omega), qa_up_hit]; exact e0) (by unfold qa_cp; rw [if_neg (by omega), qa_up_hit]; exact e1) (fun i q1 q2 => by
      unfold qa_cp
      rw [if_pos ⟨rfl, by omega, by omega⟩, qa_up_no _ (by omega), qa_up_no _ (by omega), show (0 : Int) + (i - 0) = i by omega]
      exact eC i q1 q2) (fun b j b1 b2 => by omega) (fun b p b1 b2 => by omega)
  refine ⟨m', ?_, j2, j3⟩
  unfold f_X9_copyFrom
  refine qa_fn_eq ?_ (by simp)
  have d1 : ¬ S0 = S := by omega
  simp (disch := omega) [ev_X9_copyFrom_0, ev_X9_copyFrom_2, ev_X9_copyFrom_4, B_X9_copyFrom_0, B_X9_copyFrom_1, B_X9_copyFrom_2, B_X9_copyFrom_3, B_X9_copyFrom_4, x_const, x_iadd, x_isub, x_imul, x_idiv, x_irem, x_ineg, x_dup, x_dup_x1, x_dup2, x_pop, x_goto, x_ifeq, x_ifne, x_iflt, x_ifge, x_ifgt, x_ifle, x_cmpeq, x_cmpne, x_cmplt, x_cmpge, x_cmpgt, x_cmple, x_null, x_nonnull, x_acmpeq, x_acmpne, x_get, x_put, x_putz, x_ald, x_ast, x_bast, x_zast, x_aast, x_alen, x_obj, x_ret, x_retz, x_vret, x_max, x_min, x_copy, x_i2l, qg_none, qg_inl, qg_inr, qg_ite, xr1, xr0, xrE, xri, xl0, xl1, xl2, xl3, xl4, xl5, xl6, xl7, xl8, xl9, xl10, xs0, xs1, xs2, xs3, xs4, xs5, xs6, xs7, xs8, xs9, xs10, xi0, xi1, xi2, xi3, xi4, xi5, xi6, xi7, xi8, xi9, xi10, xc0, xc1, xc2, xc3, xc4, xc5, xc6, xc7, xv1, xv2, xv3, xv4, xv5, xv6, xv7, dT_le, dF_le, dT_lt, dF_lt, dT_eq, dF_eq, qa_up_hit, qa_up_no, kS, xS, kC, xC, F2, f2, j1]
