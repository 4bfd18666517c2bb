theorem getD_app1 (l xs : List Int) (i : Nat) (h : i < l.length) : (l ++ xs).getD i 0 = l.getD i 0 := by
  rw [List.getD_eq_getElem?_getD, List.getD_eq_getElem?_getD, List.getElem?_append_left h]
theorem getD_app2 (l xs : List Int) (i : Nat) (h : l.length ≤ i) : (l ++ xs).getD i 0 = xs.getD (i - l.length) 0 := by
  rw [List.getD_eq_getElem?_getD, List.getD_eq_getElem?_getD, List.getElem?_append_right h]
theorem getD_mem {xs : List Int} {i : Nat} (h : i < xs.length) : xs.getD i 0 ∈ xs := by
  rw [List.getD_eq_getElem?_getD, List.getElem?_eq_getElem h, Option.getD_some]
  exact List.getElem_mem h
theorem Pg_app {l xs : List Int} {V cap : Int} {m m' : Int → Int → Int} {kd : Int → Nat × Int} {n : Nat} (hP : Pg l V cap m kd n) (hlen : (l.length : Int) + xs.length ≤ cap) (hx : ∀ x ∈ xs, 0 ≤ x ∧ x ≤ 127) (h75 : ∀ j, j ≠ 3 → m' 75 j = m 75 j) (h3 : m' 75 3 = (l.length : Int) + xs.length) (hV : ∀ i, m' V i = if (l.length : Int) ≤ i ∧ i < (l.length : Int) + xs.length then xs.getD (i - l.length).toNat 0 else m V i) : Pg (l ++ xs) V cap m' kd n := by
  obtain ⟨p1, p2, p3, p4, p5, p6, p7, p8, p9, p10, p11, p12, p13⟩ := hP
  refine ⟨p1, by rw [h75 0 (by decide)]; exact p2, by rw [h75 1 (by decide)]; exact p3, by rw [h3, List.length_append]; push_cast; rfl, p5, p6, p7, by rw [List.length_append]; push_cast; exact hlen, fun i hi => ?_, fun i i1 i2 => ?_, fun x hxx => ?_, p12, p13⟩
  · rw [List.length_append] at hi
    rw [hV]
    by_cases e : i < l.length
    · rw [if_neg (by omega), getD_app1 l xs i e]
      exact p9 i e
    · rw [if_pos (by omega), getD_app2 l xs i (by omega)]
      congr 1
      omega
  · rw [hV]
    split
    · have := hx _ (getD_mem (xs := xs) (i := (i - l.length).toNat) (by omega))
      omega
    · exact p10 i i1 i2
  · rcases List.mem_append.mp hxx with h | h
    · exact p11 x h
    · exact hx x h
theorem PgF_app {l : List Int} {V cap g0 : Int} {m0 : Int → Int → Int} {kd0 : Int → Nat × Int} {n0 c0 s0 : Nat} {m m' : Int → Int → Int} {kd : Int → Nat × Int} {n c s : Nat} (hP : Pg l V cap m kd n) (hF : PgF g0 m0 kd0 n0 c0 s0 cap m kd n c s) (ho : ∀ x, x ≠ 75 → x ≠ V → m' x = m x) : PgF g0 m0 kd0 n0 c0 s0 cap m' kd n c s := by
  obtain ⟨p1, p2, p3, p4, p5, p6, p7, p8, p9, p10, p11, p12, p13⟩ := hP
  obtain ⟨f1, f2, f3, f4, f5, f6, f7, f8⟩ := hF
  refine ⟨f1, fun x hx x1 x2 x3 => ?_, f3, f4, f5, f6, f7, f8⟩
  rw [ho x x1 (fun z => ?_)]
  · exact f2 x hx x1 x2 x3
  · rw [z] at hx x3 x2
    have e := f1 V hx
    rw [p5] at e
    rcases x3 with x3 | x3
    · omega
    · rw [← e] at x3
      exact x3 rfl
theorem c_appC5 {m m1 : Int → Int → Int} {kd kd1 : Int → Nat × Int} {n c s n1 c1 s1 : Nat} {L V' cap' ch : Int} (p1 : kd 75 = (2, 0)) (p4 : m 75 3 = L) (e1 : f_J5_ensureCapacityInternal_d00df [(1, 75), (0, L + 1)] (m, kd, n, c, s) = some (.inl none, (m1, kd1, n1, c1, s1))) (q1 : kd1 75 = (2, 0)) (q2 : m1 75 0 = V') (q3 : m1 75 1 = 0) (q4 : m1 75 3 = L) (q5 : kd1 V' = (102, cap')) (hL : 0 ≤ L ∧ L < cap' ∧ L ≤ 141) (hc : 0 ≤ ch ∧ ch ≤ 127) (hle : n ≤ n1 ∧ c ≤ c1 ∧ s ≤ s1) : f_J4_append_cf468 [(1, 75), (0, ch)] (m, kd, n, c, s) = some (.inl (some (1, 75)), (qa_up (qa_up m1 75 3 (L + 1)) V' L ch, kd1, n1, c1, s1)) := by
  have la := c_lat5 (w := (n1, c1, s1)) q1 q3
  have ce : f_J1_canEncode_fc78d [(0, ch)] (m1, kd1, n1, c1, s1) = some (.inl (some (0, 1)), (m1, kd1, n1, c1, s1)) := by
    unfold f_J1_canEncode_fc78d
    refine qa_fn_eq ?_ (by simp)
    simp (disch := omega) [ev_J1_canEncode_fc78d_0, ev_J1_canEncode_fc78d_1, ev_J1_canEncode_fc78d_2, B_J1_canEncode_fc78d_0, B_J1_canEncode_fc78d_1, B_J1_canEncode_fc78d_2, x_const, x_iadd, x_isub, x_imul, x_idiv, x_irem, x_ineg, x_dup, x_dup_x1, x_dup2, x_pop, x_goto, x_ifeq, x_ifne, x_iflt, x_ifge, x_ifgt, x_ifle, x_cmpeq, x_cmpne, x_cmplt, x_cmpge, x_cmpgt, x_cmple, x_null, x_nonnull, x_acmpeq, x_acmpne, x_get, x_put, x_putz, x_ald, x_ast, x_bast, x_zast, x_aast, x_alen, x_obj, x_ret, x_retz, x_vret, x_max, x_min, x_copy, x_i2l, qg_none, qg_inl, qg_inr, qg_ite, xr1, xr0, xrE, xri, xl0, xl1, xl2, xl3, xl4, xl5, xl6, xl7, xl8, xl9, xl10, xs0, xs1, xs2, xs3, xs4, xs5, xs6, xs7, xs8, xs9, xs10, xi0, xi1, xi2, xi3, xi4, xi5, xi6, xi7, xi8, xi9, xi10, xc0, xc1, xc2, xc3, xc4, xc5, xc6, xc7, xv1, xv2, xv3, xv4, xv5, xv6, xv7, dT_le, dF_le, dT_lt, dF_lt]
  have hb : qa_b ch = ch := qa_b_id (by omega)
  have a5 : f_J5_append_3fe6f [(1, 75), (0, ch)] (m, kd, n, c, s) = some (.inl (some (1, 75)), (qa_up (qa_up m1 75 3 (L + 1)) V' L ch, kd1, n1, c1, s1)) := by
    unfold f_J5_append_3fe6f
    refine qa_fn_eq ?_ (by simp; exact hle)
    simp (disch := omega) [ev_J5_append_3fe6f_0, ev_J5_append_3fe6f_1, ev_J5_append_3fe6f_2, ev_J5_append_3fe6f_3, B_J5_append_3fe6f_0, B_J5_append_3fe6f_1, B_J5_append_3fe6f_2, B_J5_append_3fe6f_3, x_const, x_iadd, x_isub, x_imul, x_idiv, x_irem, x_ineg, x_dup, x_dup_x1, x_dup2, x_pop, x_goto, x_ifeq, x_ifne, x_iflt, x_ifge, x_ifgt, x_ifle, x_cmpeq, x_cmpne, x_cmplt, x_cmpge, x_cmpgt, x_cmple, x_null, x_nonnull, x_acmpeq, x_acmpne, x_get, x_put, x_putz, x_ald, x_ast, x_bast, x_zast, x_aast, x_alen, x_obj, x_ret, x_retz, x_vret, x_max, x_min, x_copy, x_i2l, qg_none, qg_inl, qg_inr, qg_ite, xr1, xr0, xrE, xri, xl0, xl1, xl2, xl3, xl4, xl5, xl6, xl7, xl8, xl9, xl10, xs0, xs1, xs2, xs3, xs4, xs5, xs6, xs7, xs8, xs9, xs10, xi0, xi1, xi2, xi3, xi4, xi5, xi6, xi7, xi8, xi9, xi10, xc0, xc1, xc2, xc3, xc4, xc5, xc6, xc7, xv1, xv2, xv3, xv4, xv5, xv6, xv7, dT_le, dF_le, dT_lt, dF_lt, p1, p4, e1, q1, q2, q4, q5, la, ce, x_i2b, hb]
  unfold f_J4_append_cf468
  refine qa_fn_eq ?_ (by simp; exact hle)
  simp (disch := omega) [ev_J4_append_cf468_0, B_J4_append_cf468_0, x_const, x_iadd, x_isub, x_imul, x_idiv, x_irem, x_ineg, x_dup, x_dup_x1, x_dup2, x_pop, x_goto, x_ifeq, x_ifne, x_iflt, x_ifge, x_ifgt, x_ifle, x_cmpeq, x_cmpne, x_cmplt, x_cmpge, x_cmpgt, x_cmple, x_null, x_nonnull, x_acmpeq, x_acmpne, x_get, x_put, x_putz, x_ald, x_ast, x_bast, x_zast, x_aast, x_alen, x_obj, x_ret, x_retz, x_vret, x_max, x_min, x_copy, x_i2l, qg_none, qg_inl, qg_inr, qg_ite, xr1, xr0, xrE, xri, xl0, xl1, xl2, xl3, xl4, xl5, xl6, xl7, xl8, xl9, xl10, xs0, xs1, xs2, xs3, xs4, xs5, xs6, xs7, xs8, xs9, xs10, xi0, xi1, xi2, xi3, xi4, xi5, xi6, xi7, xi8, xi9, xi10, xc0, xc1, xc2, xc3, xc4, xc5, xc6, xc7, xv1, xv2, xv3, xv4, xv5, xv6, xv7, dT_le, dF_le, dT_lt, dF_lt, p1, a5]
theorem c_appC {l : List Int} {V cap g0 : Int} {m0 : Int → Int → Int} {kd0 : Int → Nat × Int} {n0 c0 s0 : Nat} {m : Int → Int → Int} {kd : Int → Nat × Int} {n c s : Nat} (hP : Pg l V cap m kd n) (hF : PgF g0 m0 kd0 n0 c0 s0 cap m kd n c s) {ch : Int} (hc : 0 ≤ ch ∧ ch ≤ 127) (hl : (l.length : Int) + 1 ≤ 142) : ∃ V' cap' m' kd' n' c' s', f_J4_append_cf468 [(1, 75), (0, ch)] (m, kd, n, c, s) = some (.inl (some (1, 75)), (m', kd', n', c', s')) ∧ Pg (l ++ [ch]) V' cap' m' kd' n' ∧ PgF g0 m0 kd0 n0 c0 s0 cap' m' kd' n' c' s' ∧ n ≤ n' ∧ c ≤ c' ∧ s ≤ s' := by
  obtain ⟨V', cap', m1, kd1, n1, c1, s1, e1, e2, e3, e4, e5, e6, e7⟩ := c_ens hP hF (need := (l.length : Int) + 1) ⟨by omega, hl, by omega⟩
  obtain ⟨p1, p2, p3, p4, p5, p6, p7, p8, p9, p10, p11, p12, p13⟩ := id hP
  obtain ⟨q1, q2, q3, q4, q5, q6, q7, q8, q9, q10, q11, q12, q13⟩ := id e2
  have hV75 : V' ≠ 75 := by omega
  have hln : (l.length : Int) ≤ 141 := by omega
  generalize hL : (l.length : Int) = L at p4 q4 e1 hln q8 e4
  refine ⟨V', cap', qa_up (qa_up m1 75 3 (L + 1)) V' L ch, kd1, n1, c1, s1, ?_, Pg_app e2 ?_ ?_ (fun j hj => ?_) ?_ (fun i => ?_), PgF_app e2 e3 (fun x x1 x2 => ?_), e5, e6, e7⟩
  · exact c_appC5 p1 p4 e1 q1 q2 q3 q4 q5 ⟨by omega, by omega, by omega⟩ hc ⟨e5, e6, e7⟩
  · show _ + (1 : Int) ≤ _; omega
  · intro x hx
    rw [List.mem_singleton.mp hx]
    exact hc
  · rw [qa_up_no _ (by omega), qa_up_no _ (by omega)]
  · rw [qa_up_no _ (by omega), qa_up_hit, ← hL]
    rfl
  · have e1' : (([ch] : List Int).length : Int) = 1 := rfl
    rw [e1', hL]
    by_cases e : i = L
    · rw [if_pos (by omega), e, qa_up_hit]
      have : (L - L).toNat = 0 := by omega
      rw [this]
      rfl
    · rw [if_neg (by omega), qa_up_no _ (fun z => e z.2), qa_up_no _ (by omega)]
  · funext i
    rw [qa_up_no _ (fun z => x2 z.1), qa_up_no _ (fun z => x1 z.1)]
theorem sL_14 : qa_sL (-14) = some (102, (List.range 100).map (fun i : Nat => (48 : Int) + (i : Int) / 10)) := by decide +kernel
theorem sL_15 : qa_sL (-15) = some (102, (List.range 100).map (fun i : Nat => (48 : Int) + (i : Int) % 10)) := by decide +kernel
theorem x_sld14 {i : Int} (k : qI) (ls r : List qV) (a : qA) (hi : 0 ≤ i ∧ i < 100) : q_sld 102 k ls ((0, i) :: (1, -14) :: r) a = k ls ((0, 48 + i / 10) :: r) a := by
  refine x_sld 102 k ls r a sL_14 rfl ⟨hi.1, by simp; omega⟩ ?_
  have h : i.toNat < 100 := by omega
  rw [List.getD_eq_getElem?_getD, List.getElem?_map, List.getElem?_range h]
  simp
  omega
theorem x_sld15 {i : Int} (k : qI) (ls r : List qV) (a : qA) (hi : 0 ≤ i ∧ i < 100) : q_sld 102 k ls ((0, i) :: (1, -15) :: r) a = k ls ((0, 48 + i % 10) :: r) a := by
  refine x_sld 102 k ls r a sL_15 rfl ⟨hi.1, by simp; omega⟩ ?_
  have h : i.toNat < 100 := by omega
  rw [List.getD_eq_getElem?_getD, List.getElem?_map, List.getElem?_range h]
  simp
  omega
theorem x_idivn (k : qI) (ls r : List qV) (x y : Int) (a : qA) (h : x ≤ 0 ∧ 0 < y) : q_idivn k ls ((0, y) :: (0, x) :: r) a = k ls ((0, qa_dv x y) :: r) a := by simp [q_idivn, h]
theorem c_gc3 {kd : Int → Nat × Int} {w : Nat × Nat × Nat} {m : Int → Int → Int} {V cap v p x : Int} {t3 t4 : Nat} {y3 y4 : Int} (h3 : t3 = 0 ∨ t3 = 9) (h4 : t4 = 0 ∨ t4 = 9) (kV : kd V = (102, cap)) (hv : 100 ≤ v ∧ v < 100000) (hp : 2 ≤ p ∧ p ≤ cap) (hc : cap ≤ 1000) : qa_ev P_J6_getChars_ba4f3 3 [(0, -v), (0, x), (1, V), (t3, y3), (t4, y4), (0, p), (0, 0)] [] (m, kd, w) = qa_ev P_J6_getChars_ba4f3 3 [(0, -(v / 100)), (0, x), (1, V), (0, -(v / 100)), (0, v % 100), (0, p - 2), (0, 0)] [] (qa_up (qa_up m V (p - 1) (48 + v % 10)) V (p - 2) (48 + v / 10 % 10), kd, w) := by
  have hq : qa_dv (-v) 100 = -(v / 100) := by unfold qa_dv; rw [Int.neg_neg]
  have hr : -(v / 100) * 100 + v = v % 100 := by omega
  have d1 : v % 100 % 10 = v % 10 := by omega
  have d2 : v % 100 / 10 = v / 10 % 10 := by omega
  have b1 : qa_b (48 + v % 10) = 48 + v % 10 := qa_b_id (by omega)
  have b2 : qa_b (48 + v / 10 % 10) = 48 + v / 10 % 10 := qa_b_id (by omega)
  have e2 : p - 1 - 1 = p - 2 := by omega
  have e3 : p - 1 + -1 = p - 2 := by omega
  have e1 : p + -1 = p - 1 := by omega
  rw [ev_J6_getChars_ba4f3_3]
  rcases h3 with rfl | rfl <;> rcases h4 with rfl | rfl <;>
  simp (disch := omega) [ev_J6_getChars_ba4f3_0, ev_J6_getChars_ba4f3_1, ev_J6_getChars_ba4f3_2, ev_J6_getChars_ba4f3_5, ev_J6_getChars_ba4f3_6, B_J6_getChars_ba4f3_0, B_J6_getChars_ba4f3_1, B_J6_getChars_ba4f3_2, B_J6_getChars_ba4f3_3, B_J6_getChars_ba4f3_4, B_J6_getChars_ba4f3_5, B_J6_getChars_ba4f3_6, x_const, x_iadd, x_isub, x_imul, x_idiv, x_irem, x_ineg, x_dup, x_dup_x1, x_dup2, x_pop, x_goto, x_ifeq, x_ifne, x_iflt, x_ifge, x_ifgt, x_ifle, x_cmpeq, x_cmpne, x_cmplt, x_cmpge, x_cmpgt, x_cmple, x_null, x_nonnull, x_acmpeq, x_acmpne, x_get, x_put, x_putz, x_ald, x_ast, x_bast, x_zast, x_aast, x_alen, x_obj, x_ret, x_retz, x_vret, x_max, x_min, x_copy, x_i2l, qg_none, qg_inl, qg_inr, qg_ite, xr1, xr0, xrE, xri, xl0, xl1, xl2, xl3, xl4, xl5, xl6, xl7, xl8, xl9, xl10, xs0, xs1, xs2, xs3, xs4, xs5, xs6, xs7, xs8, xs9, xs10, xi0, xi1, xi2, xi3, xi4, xi5, xi6, xi7, xi8, xi9, xi10, xc0, xc1, xc2, xc3, xc4, xc5, xc6, xc7, xv1, xv2, xv3, xv4, xv5, xv6, xv7, dT_le, dF_le, dT_lt, dF_lt, x_idivn, hq, hr, kV, x_sld14, x_sld15, d1, d2, b1, b2, e1, e2, e3]
theorem c_gc4 {kd : Int → Nat × Int} {w : Nat × Nat × Nat} {m : Int → Int → Int} {V cap v p x : Int} {t3 t4 : Nat} {y3 y4 : Int} (h3 : t3 = 0 ∨ t3 = 9) (h4 : t4 = 0 ∨ t4 = 9) (kV : kd V = (102, cap)) (hv : 0 ≤ v ∧ v < 100) (hp : 1 ≤ p ∧ p ≤ cap ∧ (10 ≤ v → 2 ≤ p)) (hc : cap ≤ 1000) : qa_ev P_J6_getChars_ba4f3 3 [(0, -v), (0, x), (1, V), (t3, y3), (t4, y4), (0, p), (0, 0)] [] (m, kd, w) = if v < 10 then some (.inl (some (0, p - 1)), (qa_up m V (p - 1) (48 + v), kd, w)) else some (.inl (some (0, p - 2)), (qa_up (qa_up m V (p - 1) (48 + v % 10)) V (p - 2) (48 + v / 10), kd, w)) := by
  have b1 : qa_b (48 + v % 10) = 48 + v % 10 := qa_b_id (by omega)
  have b2 : qa_b (48 + v / 10) = 48 + v / 10 := qa_b_id (by omega)
  have e2 : p - 1 - 1 = p - 2 := by omega
  have e1 : p + -1 = p - 1 := by omega
  have e3 : p - 1 + -1 = p - 2 := by omega
  rw [ev_J6_getChars_ba4f3_3]
  by_cases h : v < 10
  · have d : v % 10 = v := by omega
    rw [d] at b1
    rw [if_pos h]
    rcases h3 with rfl | rfl <;> rcases h4 with rfl | rfl <;>
    simp (disch := omega) [ev_J6_getChars_ba4f3_0, ev_J6_getChars_ba4f3_1, ev_J6_getChars_ba4f3_2, ev_J6_getChars_ba4f3_4, ev_J6_getChars_ba4f3_5, ev_J6_getChars_ba4f3_6, B_J6_getChars_ba4f3_0, B_J6_getChars_ba4f3_1, B_J6_getChars_ba4f3_2, B_J6_getChars_ba4f3_3, B_J6_getChars_ba4f3_4, B_J6_getChars_ba4f3_5, B_J6_getChars_ba4f3_6, x_const, x_iadd, x_isub, x_imul, x_idiv, x_irem, x_ineg, x_dup, x_dup_x1, x_dup2, x_pop, x_goto, x_ifeq, x_ifne, x_iflt, x_ifge, x_ifgt, x_ifle, x_cmpeq, x_cmpne, x_cmplt, x_cmpge, x_cmpgt, x_cmple, x_null, x_nonnull, x_acmpeq, x_acmpne, x_get, x_put, x_putz, x_ald, x_ast, x_bast, x_zast, x_aast, x_alen, x_obj, x_ret, x_retz, x_vret, x_max, x_min, x_copy, x_i2l, qg_none, qg_inl, qg_inr, qg_ite, xr1, xr0, xrE, xri, xl0, xl1, xl2, xl3, xl4, xl5, xl6, xl7, xl8, xl9, xl10, xs0, xs1, xs2, xs3, xs4, xs5, xs6, xs7, xs8, xs9, xs10, xi0, xi1, xi2, xi3, xi4, xi5, xi6, xi7, xi8, xi9, xi10, xc0, xc1, xc2, xc3, xc4, xc5, xc6, xc7, xv1, xv2, xv3, xv4, xv5, xv6, xv7, dT_le, dF_le, dT_lt, dF_lt, kV, x_sld14, x_sld15, b1, b2, d, e1, e2, e3]
  · have h2 := hp.2.2 (by omega)
    rw [if_neg h]
    rcases h3 with rfl | rfl <;> rcases h4 with rfl | rfl <;>
    simp (disch := omega) [ev_J6_getChars_ba4f3_0, ev_J6_getChars_ba4f3_1, ev_J6_getChars_ba4f3_2, ev_J6_getChars_ba4f3_4, ev_J6_getChars_ba4f3_5, ev_J6_getChars_ba4f3_6, B_J6_getChars_ba4f3_0, B_J6_getChars_ba4f3_1, B_J6_getChars_ba4f3_2, B_J6_getChars_ba4f3_3, B_J6_getChars_ba4f3_4, B_J6_getChars_ba4f3_5, B_J6_getChars_ba4f3_6, x_const, x_iadd, x_isub, x_imul, x_idiv, x_irem, x_ineg, x_dup, x_dup_x1, x_dup2, x_pop, x_goto, x_ifeq, x_ifne, x_iflt, x_ifge, x_ifgt, x_ifle, x_cmpeq, x_cmpne, x_cmplt, x_cmpge, x_cmpgt, x_cmple, x_null, x_nonnull, x_acmpeq, x_acmpne, x_get, x_put, x_putz, x_ald, x_ast, x_bast, x_zast, x_aast, x_alen, x_obj, x_ret, x_retz, x_vret, x_max, x_min, x_copy, x_i2l, qg_none, qg_inl, qg_inr, qg_ite, xr1, xr0, xrE, xri, xl0, xl1, xl2, xl3, xl4, xl5, xl6, xl7, xl8, xl9, xl10, xs0, xs1, xs2, xs3, xs4, xs5, xs6, xs7, xs8, xs9, xs10, xi0, xi1, xi2, xi3, xi4, xi5, xi6, xi7, xi8, xi9, xi10, xc0, xc1, xc2, xc3, xc4, xc5, xc6, xc7, xv1, xv2, xv3, xv4, xv5, xv6, xv7, dT_le, dF_le, dT_lt, dF_lt, kV, x_sld14, x_sld15, b1, b2, e1, e2, e3]
