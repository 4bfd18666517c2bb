def zpg (cap : Int) : Int := if cap ≤ 16 then 3 else if cap ≤ 34 then 2 else if cap ≤ 70 then 1 else 0
def Pg (l : List Int) (V cap : Int) (m : Int → Int → Int) (kd : Int → Nat × Int) (n : Nat) : Prop := kd 75 = (2, 0) ∧ m 75 0 = V ∧ m 75 1 = 0 ∧ m 75 3 = (l.length : Int) ∧ kd V = (102, cap) ∧ (V = 76 ∨ (93 ≤ V ∧ V < n)) ∧ (cap = 16 ∨ cap = 34 ∨ cap = 70 ∨ cap = 142) ∧ (l.length : Int) ≤ cap ∧ (∀ i : Nat, i < l.length → m V i = l.getD i 0) ∧ (∀ i, 0 ≤ i → i < cap → -128 ≤ m V i ∧ m V i < 128) ∧ (∀ x ∈ l, 0 ≤ x ∧ x ≤ 127) ∧ 93 ≤ n ∧ ∀ x : Int, n ≤ x → kd x = (0, 0)
def PgF (g0 : Int) (m0 : Int → Int → Int) (kd0 : Int → Nat × Int) (n0 c0 s0 : Nat) (cap : Int) (m : Int → Int → Int) (kd : Int → Nat × Int) (n c s : Nat) : Prop := (∀ x : Int, x < n0 → kd x = kd0 x) ∧ (∀ x : Int, x < n0 → x ≠ 75 → x ≠ 76 → (x < 93 ∨ (kd0 x).1 ≠ 102) → m x = m0 x) ∧ n0 ≤ n ∧ c0 ≤ c ∧ s0 ≤ s ∧ (c : Int) + zpg cap ≤ c0 + g0 ∧ (s : Int) + 142 * zpg cap ≤ s0 + 142 * g0 ∧ 93 ≤ n0
theorem x_copyb (k : qI) (ls r : List qV) (n dp d sp s : Int) {m : Int → Int → Int} {kd : Int → Nat × Int} {w : Nat × Nat × Nat} (h : ∀ i : Int, sp ≤ i → i < sp + n → -128 ≤ m s i ∧ m s i < 128) (hn : sp + n ≤ 100000) : q_copyb k ls ((0, n) :: (0, dp) :: (1, d) :: (0, sp) :: (1, s) :: r) (m, kd, w) = q_copy 102 k ls ((0, n) :: (0, dp) :: (1, d) :: (0, sp) :: (1, s) :: r) (m, kd, w) := by
  unfold q_copyb
  dsimp only
  split
  · rfl
  · rename_i h'
    exact absurd ⟨fun i h1 h2 => h _ h1 h2, hn⟩ h'
theorem x_ishl0 (k : qI) (ls r : List qV) (x : Int) (a : qA) : q_ishl k ls ((0, 0) :: (0, x) :: r) a = k ls ((0, x) :: r) a := by simp [q_ishl]
theorem c_newLength {m : Int → Int → Int} {kd : Int → Nat × Int} {w : Nat × Nat × Nat} {old mg pg : Int} (h1 : 0 ≤ old ∧ old ≤ 1000) (h2 : 0 ≤ mg ∧ mg ≤ pg ∧ pg ≤ 1000) (h3 : 0 < old + pg) : f_J8_newLength_cabcc [(0, old), (0, mg), (0, pg)] (m, kd, w) = some (.inl (some (0, pg + old)), (m, kd, w)) := by
  unfold f_J8_newLength_cabcc
  refine qa_fn_eq ?_ (by simp)
  by_cases h : mg < pg
  · simp (disch := omega) [ev_J8_newLength_cabcc_0, ev_J8_newLength_cabcc_1, B_J8_newLength_cabcc_0, B_J8_newLength_cabcc_1, x_const, x_iadd, x_isub, x_imul, x_idiv, x_irem, x_ineg, x_dup, x_dup_x1, x_dup2, x_pop, x_goto, x_ifeq, x_ifne, x_iflt, x_ifge, x_ifgt, x_ifle, x_cmpeq, x_cmpne, x_cmplt, x_cmpge, x_cmpgt, x_cmple, x_null, x_nonnull, x_acmpeq, x_acmpne, x_get, x_put, x_putz, x_ald, x_ast, x_bast, x_zast, x_aast, x_alen, x_obj, x_ret, x_retz, x_vret, x_max, x_min, x_copy, x_i2l, qg_none, qg_inl, qg_inr, qg_ite, xr1, xr0, xrE, xri, xl0, xl1, xl2, xl3, xl4, xl5, xl6, xl7, xl8, xl9, xl10, xs0, xs1, xs2, xs3, xs4, xs5, xs6, xs7, xs8, xs9, xs10, xi0, xi1, xi2, xi3, xi4, xi5, xi6, xi7, xi8, xi9, xi10, xc0, xc1, xc2, xc3, xc4, xc5, xc6, xc7, xv1, xv2, xv3, xv4, xv5, xv6, xv7, dT_le, dF_le, dT_lt, dF_lt, h, Int.add_comm]
  · have e : mg = pg := by omega
    subst e
    simp (disch := omega) [ev_J8_newLength_cabcc_0, ev_J8_newLength_cabcc_1, B_J8_newLength_cabcc_0, B_J8_newLength_cabcc_1, x_const, x_iadd, x_isub, x_imul, x_idiv, x_irem, x_ineg, x_dup, x_dup_x1, x_dup2, x_pop, x_goto, x_ifeq, x_ifne, x_iflt, x_ifge, x_ifgt, x_ifle, x_cmpeq, x_cmpne, x_cmplt, x_cmpge, x_cmpgt, x_cmple, x_null, x_nonnull, x_acmpeq, x_acmpne, x_get, x_put, x_putz, x_ald, x_ast, x_bast, x_zast, x_aast, x_alen, x_obj, x_ret, x_retz, x_vret, x_max, x_min, x_copy, x_i2l, qg_none, qg_inl, qg_inr, qg_ite, xr1, xr0, xrE, xri, xl0, xl1, xl2, xl3, xl4, xl5, xl6, xl7, xl8, xl9, xl10, xs0, xs1, xs2, xs3, xs4, xs5, xs6, xs7, xs8, xs9, xs10, xi0, xi1, xi2, xi3, xi4, xi5, xi6, xi7, xi8, xi9, xi10, xc0, xc1, xc2, xc3, xc4, xc5, xc6, xc7, xv1, xv2, xv3, xv4, xv5, xv6, xv7, dT_le, dF_le, dT_lt, dF_lt, Int.add_comm]
theorem c_newCap {m : Int → Int → Int} {kd : Int → Nat × Int} {w : Nat × Nat × Nat} {V cap need : Int} (k75 : kd 75 = (2, 0)) (h0 : m 75 0 = V) (h1 : m 75 1 = 0) (kV : kd V = (102, cap)) (hc : 16 ≤ cap ∧ cap ≤ 142) (hn : cap < need ∧ need ≤ 2 * cap + 2) : f_J5_newCapacity_0f7a4 [(1, 75), (0, need)] (m, kd, w) = some (.inl (some (0, 2 * cap + 2)), (m, kd, w)) := by
  have nl := c_newLength (m := m) (kd := kd) (w := w) (old := cap) (mg := need - cap) (pg := cap + 2) ⟨by omega, by omega⟩ ⟨by omega, by omega, by omega⟩ (by omega)
  have e : cap + 2 + cap = 2 * cap + 2 := by omega
  rw [e] at nl
  have hmx : ¬ 2 * cap + 2 = 2147483647 := by omega
  unfold f_J5_newCapacity_0f7a4
  refine qa_fn_eq ?_ (by simp)
  simp (disch := omega) [ev_J5_newCapacity_0f7a4_0, ev_J5_newCapacity_0f7a4_1, B_J5_newCapacity_0f7a4_0, B_J5_newCapacity_0f7a4_1, x_const, x_iadd, x_isub, x_imul, x_idiv, x_irem, x_ineg, x_dup, x_dup_x1, x_dup2, x_pop, x_goto, x_ifeq, x_ifne, x_iflt, x_ifge, x_ifgt, x_ifle, x_cmpeq, x_cmpne, x_cmplt, x_cmpge, x_cmpgt, x_cmple, x_null, x_nonnull, x_acmpeq, x_acmpne, x_get, x_put, x_putz, x_ald, x_ast, x_bast, x_zast, x_aast, x_alen, x_obj, x_ret, x_retz, x_vret, x_max, x_min, x_copy, x_i2l, qg_none, qg_inl, qg_inr, qg_ite, xr1, xr0, xrE, xri, xl0, xl1, xl2, xl3, xl4, xl5, xl6, xl7, xl8, xl9, xl10, xs0, xs1, xs2, xs3, xs4, xs5, xs6, xs7, xs8, xs9, xs10, xi0, xi1, xi2, xi3, xi4, xi5, xi6, xi7, xi8, xi9, xi10, xc0, xc1, xc2, xc3, xc4, xc5, xc6, xc7, xv1, xv2, xv3, xv4, xv5, xv6, xv7, dT_le, dF_le, dT_lt, dF_lt, hmx, k75, h0, h1, kV, x_ishl0, x_ishr0, nl]
theorem c_copyOf {m : Int → Int → Int} {kd : Int → Nat × Int} {n c s : Nat} {V cap : Int} (kV : kd V = (102, cap)) (hc : 16 ≤ cap ∧ cap ≤ 142) (hV : V < n) (hb : ∀ i, 0 ≤ i → i < cap → -128 ≤ m V i ∧ m V i < 128) : f_J7_copyOf_9075b [(1, V), (0, 2 * cap + 2)] (m, kd, n, c, s) = some (.inl (some (1, (n : Int))), (qa_cp (nm m n (fun _ => 0)) V 0 n 0 cap, nk kd n (102, 2 * cap + 2), n + 1, c + 1, s + (2 * cap + 2).toNat)) := by
  have kV' : nk kd n (102, 2 * cap + 2) V = (102, cap) := by rw [nk_no _ _ (by omega)]; exact kV
  have kn : nk kd n (102, 2 * cap + 2) n = (102, 2 * cap + 2) := nk_hit _ _ _
  have cb := fun (k : qI) (ls r : List qV) => x_copyb k ls r cap 0 n 0 V (m := nm m n (fun _ => 0)) (kd := nk kd n (102, 2 * cap + 2)) (w := (n + 1, c + 1, s + (2 * cap + 2).toNat)) (fun i h1 h2 => by rw [nm_no _ _ _ (by omega)]; exact hb i h1 (by omega)) (by omega)
  have hne : ¬ (2 * cap + 2 = cap) := by omega
  unfold f_J7_copyOf_9075b
  refine qa_fn_eq ?_ (by simp)
  simp (disch := omega) [ev_J7_copyOf_9075b_0, ev_J7_copyOf_9075b_1, B_J7_copyOf_9075b_0, B_J7_copyOf_9075b_1, x_const, x_iadd, x_isub, x_imul, x_idiv, x_irem, x_ineg, x_dup, x_dup_x1, x_dup2, x_pop, x_goto, x_ifeq, x_ifne, x_iflt, x_ifge, x_ifgt, x_ifle, x_cmpeq, x_cmpne, x_cmplt, x_cmpge, x_cmpgt, x_cmple, x_null, x_nonnull, x_acmpeq, x_acmpne, x_get, x_put, x_putz, x_ald, x_ast, x_bast, x_zast, x_aast, x_alen, x_obj, x_ret, x_retz, x_vret, x_max, x_min, x_copy, x_i2l, qg_none, qg_inl, qg_inr, qg_ite, xr1, xr0, xrE, xri, xl0, xl1, xl2, xl3, xl4, xl5, xl6, xl7, xl8, xl9, xl10, xs0, xs1, xs2, xs3, xs4, xs5, xs6, xs7, xs8, xs9, xs10, xi0, xi1, xi2, xi3, xi4, xi5, xi6, xi7, xi8, xi9, xi10, xc0, xc1, xc2, xc3, xc4, xc5, xc6, xc7, xv1, xv2, xv3, xv4, xv5, xv6, xv7, dT_le, dF_le, dT_lt, dF_lt, dF_eq, kV, hne, x_newa, kV', kn, cb]
theorem c_ens {l : List Int} {V cap g0 : Int} {m0 : Int → Int → Int} {kd0 : Int → Nat × Int} {n0 c0 s0 : Nat} {m : Int → Int → Int} {kd : Int → Nat × Int} {n c s : Nat} (hP : Pg l V cap m kd n) (hF : PgF g0 m0 kd0 n0 c0 s0 cap m kd n c s) {need : Int} (hn : need ≤ (l.length : Int) + 6 ∧ need ≤ 142 ∧ 0 ≤ need) : ∃ V' cap' m' kd' n' c' s', f_J5_ensureCapacityInternal_d00df [(1, 75), (0, need)] (m, kd, n, c, s) = some (.inl none, (m', kd', n', c', s')) ∧ Pg l V' cap' m' kd' n' ∧ PgF g0 m0 kd0 n0 c0 s0 cap' m' kd' n' c' s' ∧ need ≤ cap' ∧ n ≤ n' ∧ c ≤ c' ∧ s ≤ s' := by
  obtain ⟨p1, p2, p3, p4, p5, p6, p7, p8, p9, p10, p11, p12, p13⟩ := id hP
  by_cases h : need ≤ cap
  · refine ⟨V, cap, m, kd, n, c, s, ?_, hP, hF, h, Nat.le_refl _, Nat.le_refl _, Nat.le_refl _⟩
    unfold f_J5_ensureCapacityInternal_d00df
    refine qa_fn_eq ?_ (by simp)
    simp (disch := omega) [ev_J5_ensureCapacityInternal_d00df_0, ev_J5_ensureCapacityInternal_d00df_1, B_J5_ensureCapacityInternal_d00df_0, B_J5_ensureCapacityInternal_d00df_1, x_const, x_iadd, x_isub, x_imul, x_idiv, x_irem, x_ineg, x_dup, x_dup_x1, x_dup2, x_pop, x_goto, x_ifeq, x_ifne, x_iflt, x_ifge, x_ifgt, x_ifle, x_cmpeq, x_cmpne, x_cmplt, x_cmpge, x_cmpgt, x_cmple, x_null, x_nonnull, x_acmpeq, x_acmpne, x_get, x_put, x_putz, x_ald, x_ast, x_bast, x_zast, x_aast, x_alen, x_obj, x_ret, x_retz, x_vret, x_max, x_min, x_copy, x_i2l, qg_none, qg_inl, qg_inr, qg_ite, xr1, xr0, xrE, xri, xl0, xl1, xl2, xl3, xl4, xl5, xl6, xl7, xl8, xl9, xl10, xs0, xs1, xs2, xs3, xs4, xs5, xs6, xs7, xs8, xs9, xs10, xi0, xi1, xi2, xi3, xi4, xi5, xi6, xi7, xi8, xi9, xi10, xc0, xc1, xc2, xc3, xc4, xc5, xc6, xc7, xv1, xv2, xv3, xv4, xv5, xv6, xv7, dT_le, dF_le, dT_lt, dF_lt, p1, p2, p3, p5, x_ishr0]
  · have hVn : V < n := by omega
    have nc := c_newCap (m := m) (kd := kd) (w := (n, c, s)) p1 p2 p3 p5 ⟨by omega, by omega⟩ (need := need) ⟨by omega, by omega⟩
    have co := c_copyOf (m := m) (c := c) (s := s) p5 ⟨by omega, by omega⟩ hVn p10
    generalize hm1 : qa_cp (nm m n (fun _ => 0)) V 0 n 0 cap = m1 at co
    have o1 : ∀ x : Int, x ≠ n → m1 x = m x := fun x hx => by
      funext i
      rw [← hm1, qa_cp_no (Or.inl hx), nm_no _ _ _ hx]
    have v1 : ∀ i, m1 n i = if 0 ≤ i ∧ i < cap then m V i else 0 := fun i => by
      rw [← hm1]
      by_cases hi : 0 ≤ i ∧ i < cap
      · rw [if_pos hi, qa_cp_y hi.1 (by omega), nm_no _ _ _ (by omega)]
        congr 1
        omega
      · rw [if_neg hi, qa_cp_no (by omega), nm_hit]
    have u : ∀ x i, (x ≠ 75 ∨ i ≠ 0) → qa_up m1 75 0 n x i = m1 x i := fun x i hx => qa_up_no _ (by omega)
    obtain ⟨f1, f2, f3, f4, f5, f6, f7, f8⟩ := hF
    refine ⟨n, 2 * cap + 2, qa_up m1 75 0 n, nk kd n (102, 2 * cap + 2), n + 1, c + 1, s + (2 * cap + 2).toNat, ?_, ⟨?_, ?_, ?_, ?_, ?_, ?_, ?_, ?_, fun i hi => ?_, fun i i1 i2 => ?_, p11, by omega, fun x hx => ?_⟩, ⟨fun x hx => ?_, fun x hx x1 x2 x3 => ?_, by omega, by omega, by omega, ?_, ?_, f8⟩, by omega, by omega, by omega, by omega⟩
    · have k1' : nk kd n (102, 2 * cap + 2) 75 = (2, 0) := by rw [nk_no _ _ (by omega)]; exact p1
      have hlt : cap < need := by omega
      unfold f_J5_ensureCapacityInternal_d00df
      refine qa_fn_eq ?_ (by simp)
      simp (disch := omega) [ev_J5_ensureCapacityInternal_d00df_0, ev_J5_ensureCapacityInternal_d00df_1, B_J5_ensureCapacityInternal_d00df_0, B_J5_ensureCapacityInternal_d00df_1, x_const, x_iadd, x_isub, x_imul, x_idiv, x_irem, x_ineg, x_dup, x_dup_x1, x_dup2, x_pop, x_goto, x_ifeq, x_ifne, x_iflt, x_ifge, x_ifgt, x_ifle, x_cmpeq, x_cmpne, x_cmplt, x_cmpge, x_cmpgt, x_cmple, x_null, x_nonnull, x_acmpeq, x_acmpne, x_get, x_put, x_putz, x_ald, x_ast, x_bast, x_zast, x_aast, x_alen, x_obj, x_ret, x_retz, x_vret, x_max, x_min, x_copy, x_i2l, qg_none, qg_inl, qg_inr, qg_ite, xr1, xr0, xrE, xri, xl0, xl1, xl2, xl3, xl4, xl5, xl6, xl7, xl8, xl9, xl10, xs0, xs1, xs2, xs3, xs4, xs5, xs6, xs7, xs8, xs9, xs10, xi0, xi1, xi2, xi3, xi4, xi5, xi6, xi7, xi8, xi9, xi10, xc0, xc1, xc2, xc3, xc4, xc5, xc6, xc7, xv1, xv2, xv3, xv4, xv5, xv6, xv7, dT_le, dF_le, dT_lt, dF_lt, p1, p2, p3, p5, x_ishr0, x_ishl0, nc, co, k1']
    · rw [nk_no _ _ (by omega)]; exact p1
    · exact qa_up_hit _ _ _ _
    · rw [u 75 1 (by omega), o1 75 (by omega)]; exact p3
    · rw [u 75 3 (by omega), o1 75 (by omega)]; exact p4
    · exact nk_hit _ _ _
    · right; omega
    · omega
    · omega
    · rw [u _ _ (by omega), v1, if_pos (by omega)]
      exact p9 i hi
    · rw [u _ _ (by omega), v1]
      split
      · exact p10 i (by omega) (by omega)
      · decide
    · rw [nk_no _ _ (by omega)]; exact p13 x (by omega)
    · rw [nk_no _ _ (by omega)]; exact f1 x hx
    · rw [← f2 x hx x1 x2 x3, ← o1 x (by omega)]
      funext i
      exact u x i (Or.inl x1)
    · unfold zpg at f6 ⊢
      rcases p7 with rfl | rfl | rfl | rfl
      · simp at f6 ⊢; omega
      · simp at f6 ⊢; omega
      · simp at f6 ⊢; omega
      · omega
    · unfold zpg at f7 ⊢
      rcases p7 with rfl | rfl | rfl | rfl
      · simp at f7 ⊢; omega
      · simp at f7 ⊢; omega
      · simp at f7 ⊢; omega
      · omega
theorem c_lat5 {m : Int → Int → Int} {kd : Int → Nat × Int} {w : Nat × Nat × Nat} (k75 : kd 75 = (2, 0)) (h1 : m 75 1 = 0) : f_J5_isLatin1_aae02 [(1, 75)] (m, kd, w) = some (.inl (some (0, 1)), (m, kd, w)) := by
  unfold f_J5_isLatin1_aae02
  refine qa_fn_eq ?_ (by simp)
  simp (disch := omega) [ev_J5_isLatin1_aae02_0, ev_J5_isLatin1_aae02_1, ev_J5_isLatin1_aae02_2, B_J5_isLatin1_aae02_0, B_J5_isLatin1_aae02_1, B_J5_isLatin1_aae02_2, x_const, x_iadd, x_isub, x_imul, x_idiv, x_irem, x_ineg, x_dup, x_dup_x1, x_dup2, x_pop, x_goto, x_ifeq, x_ifne, x_iflt, x_ifge, x_ifgt, x_ifle, x_cmpeq, x_cmpne, x_cmplt, x_cmpge, x_cmpgt, x_cmple, x_null, x_nonnull, x_acmpeq, x_acmpne, x_get, x_put, x_putz, x_ald, x_ast, x_bast, x_zast, x_aast, x_alen, x_obj, x_ret, x_retz, x_vret, x_max, x_min, x_copy, x_i2l, qg_none, qg_inl, qg_inr, qg_ite, xr1, xr0, xrE, xri, xl0, xl1, xl2, xl3, xl4, xl5, xl6, xl7, xl8, xl9, xl10, xs0, xs1, xs2, xs3, xs4, xs5, xs6, xs7, xs8, xs9, xs10, xi0, xi1, xi2, xi3, xi4, xi5, xi6, xi7, xi8, xi9, xi10, xc0, xc1, xc2, xc3, xc4, xc5, xc6, xc7, xv1, xv2, xv3, xv4, xv5, xv6, xv7, dT_le, dF_le, dT_lt, dF_lt, k75, h1]
theorem x_i2b (k : qI) (ls r : List qV) (x : Int) (a : qA) (h : -128 ≤ x ∧ x < 128) : q_i2b k ls ((0, x) :: r) a = k ls ((0, x) :: r) a := by
  have : qa_b x = x := by unfold qa_b; omega
  simp [q_i2b, this]
theorem qa_b_id {x : Int} (h : -128 ≤ x ∧ x < 128) : qa_b x = x := by unfold qa_b; omega
