def zdep (A : zA) : Nat → Int → Prop
  | 0, at' => at' = -1
  | n + 1, at' => at' = -1 ∨ (zBl A at' ∧ zdep A n (A.2.1 at' 2))
def zab (A : zA) (s : Int) : Nat → Int → Int
  | 0, _ => 0
  | n + 1, at' => if at' = -1 then 0 else if at' = s then 1 else zab A s n (A.2.1 at' 2)
theorem zab_01 (A : zA) (s : Int) : ∀ (n : Nat) (x : Int), zab A s n x = 0 ∨ zab A s n x = 1 := by
  intro n
  induction n with
  | zero => intro x; exact Or.inl rfl
  | succ n ih =>
    intro x
    simp only [zab]
    repeat' split
    · exact Or.inl rfl
    · exact Or.inr rfl
    · exact ih _
theorem zdep_4 {A : zA} (hT : zT A) {b : Int} (hb : zBl A b) : zdep A 4 b := by
  obtain ⟨h1, h2, h3, rk, h⟩ := hT
  have z : ∀ n : Nat, zdep A n (-1) := fun n => by
    cases n with
    | zero => rfl
    | succ n => exact Or.inl rfl
  have root : ∀ n : Nat, zdep A (n + 1) 0 := fun n => Or.inr ⟨⟨by decide, by decide, h1⟩, by rw [h2]; exact z n⟩
  have step : ∀ (n : Nat) (x : Int), zBl A x → (x ≠ 0 → zdep A n (A.2.1 x 2)) → (x = 0 → 1 ≤ n ∨ True) → zdep A (n + 1) x := fun n x hx hk _ => by
    by_cases e : x = 0
    · rw [e]; exact root n
    · exact Or.inr ⟨hx, hk e⟩
  refine step 3 b hb (fun e0 => ?_) (fun _ => Or.inr trivial)
  obtain ⟨p1, q1, -⟩ := h b (by have := hb.1; omega) hb.2.1 hb.2.2
  refine step 2 _ p1 (fun e1 => ?_) (fun _ => Or.inr trivial)
  obtain ⟨p2, q2, -⟩ := h _ (by have := p1.1; omega) p1.2.1 p1.2.2
  refine step 1 _ p2 (fun e2 => ?_) (fun _ => Or.inr trivial)
  obtain ⟨p3, q3, -⟩ := h _ (by have := p2.1; omega) p2.2.1 p2.2.2
  refine step 0 _ p3 (fun e3 => ?_) (fun _ => Or.inr trivial)
  exfalso
  generalize A.2.1 (A.2.1 (A.2.1 b 2) 2) 2 = x3 at *
  generalize A.2.1 (A.2.1 b 2) 2 = x2 at *
  generalize A.2.1 b 2 = x1 at *
  have d1 : b ≠ x1 := fun z => by rw [z] at q1; omega
  have d2 : b ≠ x2 := fun z => by rw [z] at q1; omega
  have d3 : b ≠ x3 := fun z => by rw [z] at q1; omega
  have d4 : x1 ≠ x2 := fun z => by rw [z] at q2; omega
  have d5 : x1 ≠ x3 := fun z => by rw [z] at q2; omega
  have d6 : x2 ≠ x3 := fun z => by rw [z] at q3; omega
  have a0 := hb.1
  have a1 := p1.1
  have a2 := p2.1
  have a3 := p3.1
  have c0 := hb.2.1
  have c1 := p1.2.1
  have c2 := p2.2.1
  have c3 := p3.2.1
  clear h q1 q2 q3 step root z hb p1 p2 p3
  omega
theorem zpar {A : zA} (hT : zT A) {b : Int} (hb : zBl A b) : (b = 0 ∧ A.2.1 b 2 = -1 ∧ A.2.1 b 3 = -1) ∨ (b ≠ 0 ∧ zBl A (A.2.1 b 2) ∧ 0 ≤ A.2.1 b 3 ∧ A.2.1 b 3 ≤ A.2.1 b 5) := by
  obtain ⟨h1, h2, h3, rk, h⟩ := hT
  by_cases e : b = 0
  · subst e; exact Or.inl ⟨rfl, h2, h3⟩
  · obtain ⟨p1, q1, q2, q3, q4⟩ := h b (by have := hb.1; omega) hb.2.1 hb.2.2
    exact Or.inr ⟨e, p1, q2, q3⟩
theorem zab_root {A : zA} (hT : zT A) : ∀ (n : Nat) (x : Int), zdep A n x → x ≠ -1 → zab A 0 n x = 1 := by
  intro n
  induction n with
  | zero => intro x h hx; exact absurd h hx
  | succ n ih =>
    intro x h hx
    rcases h with h | ⟨h1, h2⟩
    · exact absurd h hx
    · simp only [zab]
      rw [if_neg hx]
      by_cases e : x = 0
      · rw [if_pos e]
      · rw [if_neg e]
        rcases zpar hT h1 with h | h
        · exact absurd h.1 e
        · exact ih _ h2 (by have := h.2.1.1; omega)
def zmeet (A : zA) (o : Int) : Nat → Int → Int
  | 0, t => t
  | n + 1, t => if zab A t 4 o = 1 then t else zmeet A o n (A.2.1 t 2)
def zlf (A : zA) (t : Int) : Nat → Int → Int → Int
  | 0, _, l => l
  | n + 1, x, l => if x = t then l else zlf A t n (A.2.1 x 2) (if A.2.1 x 3 < l then A.2.1 x 3 else l)
theorem zmeet_ok {A : zA} (hT : zT A) {o : Int} (ho : zBl A o) : ∀ (n : Nat) (t : Int), zdep A n t → t ≠ -1 → zBl A (zmeet A o n t) ∧ zab A (zmeet A o n t) 4 o = 1 := by
  intro n
  induction n with
  | zero => intro t h ht; exact absurd h ht
  | succ n ih =>
    intro t h ht
    rcases h with h | ⟨h1, h2⟩
    · exact absurd h ht
    · simp only [zmeet]
      by_cases e : zab A t 4 o = 1
      · rw [if_pos e]; exact ⟨h1, e⟩
      · rw [if_neg e]
        rcases zpar hT h1 with h | h
        · exfalso
          rw [h.1] at e
          exact e (zab_root hT 4 o (zdep_4 hT ho) (by have := ho.1; omega))
        · exact ih _ h2 (by have := h.2.1.1; omega)
def zcommon (A : zA) (one other : Int) : Int := if one = other then A.2.1 one 5 else
  (if zlf A (zmeet A other 4 one) 4 other 1073741824 < zlf A (zmeet A other 4 one) 4 one 1073741824 then zlf A (zmeet A other 4 one) 4 other 1073741824 else zlf A (zmeet A other 4 one) 4 one 1073741824)
theorem zlf_le (A : zA) (t : Int) : ∀ (n : Nat) (x l : Int), zlf A t n x l ≤ l := by
  intro n
  induction n with
  | zero => intro x l; exact Int.le_refl _
  | succ n ih =>
    intro x l
    simp only [zlf]
    split
    · exact Int.le_refl _
    · have h1 := ih (A.2.1 x 2) (if A.2.1 x 3 < l then A.2.1 x 3 else l)
      have h2 : (if A.2.1 x 3 < l then A.2.1 x 3 else l) ≤ l := by split <;> omega
      omega
theorem zlf_min (A : zA) (t : Int) : ∀ (n : Nat) (x l l' : Int), l' ≤ l → zlf A t n x l' = if l' < zlf A t n x l then l' else zlf A t n x l := by
  intro n
  induction n with
  | zero =>
    intro x l l' h
    show l' = if l' < l then l' else l
    split <;> omega
  | succ n ih =>
    intro x l l' h
    have u : ∀ l, zlf A t (n + 1) x l = if x = t then l else zlf A t n (A.2.1 x 2) (if A.2.1 x 3 < l then A.2.1 x 3 else l) := fun l => rfl
    rw [u, u]
    by_cases e : x = t
    · rw [if_pos e, if_pos e]
      split <;> omega
    · rw [if_neg e, if_neg e]
      have h1 := ih (A.2.1 x 2) (if A.2.1 x 3 < l then A.2.1 x 3 else l) (if A.2.1 x 3 < l' then A.2.1 x 3 else l') (by split <;> split <;> omega)
      have h2 := zlf_le A t n (A.2.1 x 2) (if A.2.1 x 3 < l then A.2.1 x 3 else l)
      rw [h1]
      generalize zlf A t n (A.2.1 x 2) (if A.2.1 x 3 < l then A.2.1 x 3 else l) = z at *
      by_cases c1 : A.2.1 x 3 < l'
      · have c2 : A.2.1 x 3 < l := by omega
        rw [if_pos c2] at h2
        rw [if_pos c1]
        repeat' split
        all_goals omega
      · rw [if_neg c1]
theorem zmeet_up {A : zA} (hT : zT A) {o : Int} (ho : zBl A o) : ∀ (n : Nat) (t : Int), zdep A n t → t ≠ -1 → zab A (zmeet A o n t) n t = 1 := by
  intro n
  induction n with
  | zero => intro t h ht; exact absurd h ht
  | succ n ih =>
    intro t h ht
    rcases h with h | ⟨h1, h2⟩
    · exact absurd h ht
    · have u : ∀ z, zab A z (n + 1) t = if t = -1 then 0 else if t = z then 1 else zab A z n (A.2.1 t 2) := fun z => rfl
      rw [u, if_neg ht]
      by_cases e2 : t = zmeet A o (n + 1) t
      · rw [if_pos e2]
      · rw [if_neg e2]
        simp only [zmeet] at e2 ⊢
        by_cases e : zab A t 4 o = 1
        · rw [if_pos e] at e2
          exact absurd rfl e2
        · rw [if_neg e]
          rcases zpar hT h1 with h | h
          · exfalso
            rw [h.1] at e
            exact e (zab_root hT 4 o (zdep_4 hT ho) (by have := ho.1; omega))
          · exact ih _ h2 (by have := h.2.1.1; omega)
theorem c_isOnWay {m : Int → Int → Int} {kd : Int → Nat × Int} {w : Nat × Nat × Nat} {A : zA} {S : Int} (hK : KS kd S) (hC : RC A m kd S) {M : Int} (hW : zW M A) (hT : zT A) (hS : 0 ≤ S) {s f : Int} (hs : zBl A s) (hf : zBl A f) : f_X9_isOnWay [(1, S), (1, S + 4 + 2 * s), (1, S + 4 + 2 * f)] (m, kd, w) = some (.inl (some (0, zab A s 4 f)), (m, kd, w)) := by
  obtain ⟨s1, s2, s3⟩ := id hs
  have root := hT.1
  have rpar := hT.2.1
  have stay : ∀ (n : Nat) (k : Int), s ≠ 0 → 0 ≤ k → k + n = 4 → qa_ev P_X9_isOnWay 1 [(1, S), (1, S + 4 + 2 * s), (1, S + 4 + 2 * f), (1, S + 4 + 2 * 0), (0, k)] [] (m, kd, w) = some (.inl (some (0, 0)), (m, kd, w)) := by
    intro n
    induction n with
    | zero =>
      intro k h0 h1 h2
      rw [ev_X9_isOnWay_1]
      simp (disch := omega) [ev_X9_isOnWay_0, ev_X9_isOnWay_2, ev_X9_isOnWay_3, ev_X9_isOnWay_4, B_X9_isOnWay_0, B_X9_isOnWay_1, B_X9_isOnWay_2, B_X9_isOnWay_3, B_X9_isOnWay_4, x_const, x_iadd, x_isub, x_imul, x_idiv, x_irem, x_ineg, x_dup, x_dup_x1, x_dup2, x_pop, x_goto, x_ifeq, x_ifne, x_iflt, x_ifge, x_ifgt, x_ifle, x_cmpeq, x_cmpne, x_cmplt, x_cmpge, x_cmpgt, x_cmple, x_null, x_nonnull, x_acmpeq, x_acmpne, x_get, x_put, x_putz, x_ald, x_ast, x_bast, x_zast, x_aast, x_alen, x_obj, x_ret, x_retz, x_vret, x_max, x_min, x_copy, x_i2l, qg_none, qg_inl, qg_inr, qg_ite, xr1, xr0, xrE, xri, xl0, xl1, xl2, xl3, xl4, xl5, xl6, xl7, xl8, xl9, xl10, xs0, xs1, xs2, xs3, xs4, xs5, xs6, xs7, xs8, xs9, xs10, xi0, xi1, xi2, xi3, xi4, xi5, xi6, xi7, xi8, xi9, xi10, xc0, xc1, xc2, xc3, xc4, xc5, xc6, xc7, xv1, xv2, xv3, xv4, xv5, xv6, xv7, dT_le, dF_le, dT_lt, dF_lt, dF_eq]
    | succ n ih =>
      intro k h0 h1 h2
      have ih' := ih (k + 1) h0 (by omega) (by omega)
      have hp := c_parentOf (w := w) hK hC (b := 0) (by decide) (by decide) (by omega)
      rw [rpar, if_pos (by decide)] at hp
      obtain ⟨⟨f2, f3, f4, fV, fW, f0, f8, f9, f7⟩, e0, e1, eC, eB, eR, eD, eL, eE⟩ := id hC
      obtain ⟨kN, kS, kC, kV, kW, kB, kE, kR, kD, kL⟩ := id hK
      rw [ev_X9_isOnWay_1]
      simp only [Int.mul_zero, Int.add_zero] at hp ih' ⊢
      simp (disch := omega) [ev_X9_isOnWay_0, ev_X9_isOnWay_2, ev_X9_isOnWay_3, ev_X9_isOnWay_4, B_X9_isOnWay_0, B_X9_isOnWay_1, B_X9_isOnWay_2, B_X9_isOnWay_3, B_X9_isOnWay_4, x_const, x_iadd, x_isub, x_imul, x_idiv, x_irem, x_ineg, x_dup, x_dup_x1, x_dup2, x_pop, x_goto, x_ifeq, x_ifne, x_iflt, x_ifge, x_ifgt, x_ifle, x_cmpeq, x_cmpne, x_cmplt, x_cmpge, x_cmpgt, x_cmple, x_null, x_nonnull, x_acmpeq, x_acmpne, x_get, x_put, x_putz, x_ald, x_ast, x_bast, x_zast, x_aast, x_alen, x_obj, x_ret, x_retz, x_vret, x_max, x_min, x_copy, x_i2l, qg_none, qg_inl, qg_inr, qg_ite, xr1, xr0, xrE, xri, xl0, xl1, xl2, xl3, xl4, xl5, xl6, xl7, xl8, xl9, xl10, xs0, xs1, xs2, xs3, xs4, xs5, xs6, xs7, xs8, xs9, xs10, xi0, xi1, xi2, xi3, xi4, xi5, xi6, xi7, xi8, xi9, xi10, xc0, xc1, xc2, xc3, xc4, xc5, xc6, xc7, xv1, xv2, xv3, xv4, xv5, xv6, xv7, dT_le, dF_le, dT_lt, dF_lt, dF_eq, kS, hp, ih']
  have loop : ∀ (n : Nat) (k x : Int), 0 ≤ k → k + n = 4 → zBl A x → zdep A n x → qa_ev P_X9_isOnWay 1 [(1, S), (1, S + 4 + 2 * s), (1, S + 4 + 2 * f), (1, S + 4 + 2 * x), (0, k)] [] (m, kd, w) = some (.inl (some (0, zab A s n x)), (m, kd, w)) := by
    intro n
    induction n with
    | zero =>
      intro k x h1 h2 h3 h4
      exfalso
      have := h3.1
      have : x = -1 := h4
      omega
    | succ n ih =>
      intro k x h1 h2 h3 h4
      obtain ⟨x1, x2, x3⟩ := id h3
      have hxn : x ≠ -1 := by omega
      have u : zab A s (n + 1) x = if x = -1 then 0 else if x = s then 1 else zab A s n (A.2.1 x 2) := rfl
      rw [if_neg hxn] at u
      rcases h4 with h4 | ⟨-, h4⟩
      · exact absurd h4 hxn
      rw [ev_X9_isOnWay_1]
      by_cases e : x = s
      · rw [if_pos e] at u
        rw [u, e]
        simp (disch := omega) [ev_X9_isOnWay_0, ev_X9_isOnWay_2, ev_X9_isOnWay_3, ev_X9_isOnWay_4, B_X9_isOnWay_0, B_X9_isOnWay_1, B_X9_isOnWay_2, B_X9_isOnWay_3, B_X9_isOnWay_4, x_const, x_iadd, x_isub, x_imul, x_idiv, x_irem, x_ineg, x_dup, x_dup_x1, x_dup2, x_pop, x_goto, x_ifeq, x_ifne, x_iflt, x_ifge, x_ifgt, x_ifle, x_cmpeq, x_cmpne, x_cmplt, x_cmpge, x_cmpgt, x_cmple, x_null, x_nonnull, x_acmpeq, x_acmpne, x_get, x_put, x_putz, x_ald, x_ast, x_bast, x_zast, x_aast, x_alen, x_obj, x_ret, x_retz, x_vret, x_max, x_min, x_copy, x_i2l, qg_none, qg_inl, qg_inr, qg_ite, xr1, xr0, xrE, xri, xl0, xl1, xl2, xl3, xl4, xl5, xl6, xl7, xl8, xl9, xl10, xs0, xs1, xs2, xs3, xs4, xs5, xs6, xs7, xs8, xs9, xs10, xi0, xi1, xi2, xi3, xi4, xi5, xi6, xi7, xi8, xi9, xi10, xc0, xc1, xc2, xc3, xc4, xc5, xc6, xc7, xv1, xv2, xv3, xv4, xv5, xv6, xv7, dT_le, dF_le, dT_lt, dF_lt]
      · rw [if_neg e] at u
        rw [u]
        rcases zpar hT h3 with h | h
        · have z0 : zab A s n (A.2.1 x 2) = 0 := by
            rw [h.2.1]
            cases n with
            | zero => rfl
            | succ n => exact if_pos rfl
          rw [z0]
          have st := stay n (k + 1) (by omega) (by omega) (by omega)
          have hp := c_parentOf (w := w) hK hC (b := x) x1 x2 (by omega)
          rw [h.2.1, if_pos (by decide)] at hp
          obtain ⟨⟨f2, f3, f4, fV, fW, f0, f8, f9, f7⟩, e0, e1, eC, eB, eR, eD, eL, eE⟩ := id hC
          obtain ⟨kN, kS, kC, kV, kW, kB, kE, kR, kD, kL⟩ := id hK
          simp only [Int.mul_zero, Int.add_zero] at hp st ⊢
          simp (disch := omega) [ev_X9_isOnWay_0, ev_X9_isOnWay_2, ev_X9_isOnWay_3, ev_X9_isOnWay_4, B_X9_isOnWay_0, B_X9_isOnWay_1, B_X9_isOnWay_2, B_X9_isOnWay_3, B_X9_isOnWay_4, x_const, x_iadd, x_isub, x_imul, x_idiv, x_irem, x_ineg, x_dup, x_dup_x1, x_dup2, x_pop, x_goto, x_ifeq, x_ifne, x_iflt, x_ifge, x_ifgt, x_ifle, x_cmpeq, x_cmpne, x_cmplt, x_cmpge, x_cmpgt, x_cmple, x_null, x_nonnull, x_acmpeq, x_acmpne, x_get, x_put, x_putz, x_ald, x_ast, x_bast, x_zast, x_aast, x_alen, x_obj, x_ret, x_retz, x_vret, x_max, x_min, x_copy, x_i2l, qg_none, qg_inl, qg_inr, qg_ite, xr1, xr0, xrE, xri, xl0, xl1, xl2, xl3, xl4, xl5, xl6, xl7, xl8, xl9, xl10, xs0, xs1, xs2, xs3, xs4, xs5, xs6, xs7, xs8, xs9, xs10, xi0, xi1, xi2, xi3, xi4, xi5, xi6, xi7, xi8, xi9, xi10, xc0, xc1, xc2, xc3, xc4, xc5, xc6, xc7, xv1, xv2, xv3, xv4, xv5, xv6, xv7, dT_le, dF_le, dT_lt, dF_lt, dF_eq, kS, hp, st]
        · have hp := c_parentOf (w := w) hK hC (b := x) x1 x2 (by have := h.2.1.2.1; omega)
          rw [if_neg (by have := h.2.1.1; omega)] at hp
          have ih' := ih (k + 1) (A.2.1 x 2) (by omega) (by omega) h.2.1 h4
          obtain ⟨⟨f2, f3, f4, fV, fW, f0, f8, f9, f7⟩, e0, e1, eC, eB, eR, eD, eL, eE⟩ := id hC
          obtain ⟨kN, kS, kC, kV, kW, kB, kE, kR, kD, kL⟩ := id hK
          simp (disch := omega) [ev_X9_isOnWay_0, ev_X9_isOnWay_2, ev_X9_isOnWay_3, ev_X9_isOnWay_4, B_X9_isOnWay_0, B_X9_isOnWay_1, B_X9_isOnWay_2, B_X9_isOnWay_3, B_X9_isOnWay_4, x_const, x_iadd, x_isub, x_imul, x_idiv, x_irem, x_ineg, x_dup, x_dup_x1, x_dup2, x_pop, x_goto, x_ifeq, x_ifne, x_iflt, x_ifge, x_ifgt, x_ifle, x_cmpeq, x_cmpne, x_cmplt, x_cmpge, x_cmpgt, x_cmple, x_null, x_nonnull, x_acmpeq, x_acmpne, x_get, x_put, x_putz, x_ald, x_ast, x_bast, x_zast, x_aast, x_alen, x_obj, x_ret, x_retz, x_vret, x_max, x_min, x_copy, x_i2l, qg_none, qg_inl, qg_inr, qg_ite, xr1, xr0, xrE, xri, xl0, xl1, xl2, xl3, xl4, xl5, xl6, xl7, xl8, xl9, xl10, xs0, xs1, xs2, xs3, xs4, xs5, xs6, xs7, xs8, xs9, xs10, xi0, xi1, xi2, xi3, xi4, xi5, xi6, xi7, xi8, xi9, xi10, xc0, xc1, xc2, xc3, xc4, xc5, xc6, xc7, xv1, xv2, xv3, xv4, xv5, xv6, xv7, dT_le, dF_le, dT_lt, dF_lt, dF_eq, kS, hp, ih']
  unfold f_X9_isOnWay
  refine qa_fn_eq ?_ (by simp)
  simp (disch := omega) [ev_X9_isOnWay_0, ev_X9_isOnWay_2, ev_X9_isOnWay_3, ev_X9_isOnWay_4, B_X9_isOnWay_0, B_X9_isOnWay_1, B_X9_isOnWay_2, B_X9_isOnWay_3, B_X9_isOnWay_4, x_const, x_iadd, x_isub, x_imul, x_idiv, x_irem, x_ineg, x_dup, x_dup_x1, x_dup2, x_pop, x_goto, x_ifeq, x_ifne, x_iflt, x_ifge, x_ifgt, x_ifle, x_cmpeq, x_cmpne, x_cmplt, x_cmpge, x_cmpgt, x_cmple, x_null, x_nonnull, x_acmpeq, x_acmpne, x_get, x_put, x_putz, x_ald, x_ast, x_bast, x_zast, x_aast, x_alen, x_obj, x_ret, x_retz, x_vret, x_max, x_min, x_copy, x_i2l, qg_none, qg_inl, qg_inr, qg_ite, xr1, xr0, xrE, xri, xl0, xl1, xl2, xl3, xl4, xl5, xl6, xl7, xl8, xl9, xl10, xs0, xs1, xs2, xs3, xs4, xs5, xs6, xs7, xs8, xs9, xs10, xi0, xi1, xi2, xi3, xi4, xi5, xi6, xi7, xi8, xi9, xi10, xc0, xc1, xc2, xc3, xc4, xc5, xc6, xc7, xv1, xv2, xv3, xv4, xv5, xv6, xv7, dT_le, dF_le, dT_lt, dF_lt, loop 4 0 f (by decide) (by decide) hf (zdep_4 hT hf)]
theorem c_leastFork {m : Int → Int → Int} {kd : Int → Nat × Int} {w : Nat × Nat × Nat} {A : zA} {S : Int} (hK : KS kd S) (hC : RC A m kd S) {M : Int} (hW : zW M A) (hT : zT A) (hS : 0 ≤ S) {t f : Int} (ht : zBl A t) (hf : zBl A f) (hu : zab A t 4 f = 1) : f_X9_leastFork [(1, S), (1, S + 4 + 2 * f), (1, S + 4 + 2 * t)] (m, kd, w) = some (.inl (some (0, zlf A t 4 f 1073741824)), (m, kd, w)) := by
  obtain ⟨s1, s2, s3⟩ := id ht
  have loop : ∀ (n : Nat) (k x l : Int), 0 ≤ k → k + n = 4 → zBl A x → zdep A n x → zab A t n x = 1 → qa_ev P_X9_leastFork 1 [(1, S), (1, S + 4 + 2 * f), (1, S + 4 + 2 * t), (0, l), (1, S + 4 + 2 * x), (0, k)] [] (m, kd, w) = some (.inl (some (0, zlf A t n x l)), (m, kd, w)) := by
    intro n
    induction n with
    | zero =>
      intro k x l h1 h2 h3 h4
      exfalso
      have := h3.1
      have : x = -1 := h4
      omega
    | succ n ih =>
      intro k x l h1 h2 h3 h4 h5
      obtain ⟨x1, x2, x3⟩ := id h3
      have hxn : x ≠ -1 := by omega
      have u : zlf A t (n + 1) x l = if x = t then l else zlf A t n (A.2.1 x 2) (if A.2.1 x 3 < l then A.2.1 x 3 else l) := rfl
      have u5 : zab A t (n + 1) x = if x = -1 then 0 else if x = t then 1 else zab A t n (A.2.1 x 2) := rfl
      rw [if_neg hxn] at u5
      rcases h4 with h4 | ⟨-, h4⟩
      · exact absurd h4 hxn
      rw [ev_X9_leastFork_1]
      by_cases e : x = t
      · rw [if_pos e] at u
        rw [u, e]
        simp (disch := omega) [ev_X9_leastFork_0, ev_X9_leastFork_2, B_X9_leastFork_0, B_X9_leastFork_1, B_X9_leastFork_2, x_const, x_iadd, x_isub, x_imul, x_idiv, x_irem, x_ineg, x_dup, x_dup_x1, x_dup2, x_pop, x_goto, x_ifeq, x_ifne, x_iflt, x_ifge, x_ifgt, x_ifle, x_cmpeq, x_cmpne, x_cmplt, x_cmpge, x_cmpgt, x_cmple, x_null, x_nonnull, x_acmpeq, x_acmpne, x_get, x_put, x_putz, x_ald, x_ast, x_bast, x_zast, x_aast, x_alen, x_obj, x_ret, x_retz, x_vret, x_max, x_min, x_copy, x_i2l, qg_none, qg_inl, qg_inr, qg_ite, xr1, xr0, xrE, xri, xl0, xl1, xl2, xl3, xl4, xl5, xl6, xl7, xl8, xl9, xl10, xs0, xs1, xs2, xs3, xs4, xs5, xs6, xs7, xs8, xs9, xs10, xi0, xi1, xi2, xi3, xi4, xi5, xi6, xi7, xi8, xi9, xi10, xc0, xc1, xc2, xc3, xc4, xc5, xc6, xc7, xv1, xv2, xv3, xv4, xv5, xv6, xv7, dT_le, dF_le, dT_lt, dF_lt]
      · rw [if_neg e] at u u5
        rw [u]
        rw [u5] at h5
        rcases zpar hT h3 with h | h
        · exfalso
          rw [h.2.1] at h5
          cases n with
          | zero => exact absurd h5 (by simp [zab])
          | succ n => exact absurd h5 (by simp [zab])
        · have hp := c_parentOf (w := w) hK hC (b := x) x1 x2 (by have := h.2.1.2.1; omega)
          rw [if_neg (by have := h.2.1.1; omega)] at hp
          have ih' := ih (k + 1) (A.2.1 x 2) (if A.2.1 x 3 < l then A.2.1 x 3 else l) (by omega) (by omega) h.2.1 h4 h5
          obtain ⟨⟨f2, f3, f4, fV, fW, f0, f8, f9, f7⟩, e0, e1, eC, eB, eR, eD, eL, eE⟩ := id hC
          obtain ⟨kN, kS, kC, kV, kW, kB, kE, kR, kD, kL⟩ := id hK
          simp (disch := omega) [ev_X9_leastFork_0, ev_X9_leastFork_2, B_X9_leastFork_0, B_X9_leastFork_1, B_X9_leastFork_2, x_const, x_iadd, x_isub, x_imul, x_idiv, x_irem, x_ineg, x_dup, x_dup_x1, x_dup2, x_pop, x_goto, x_ifeq, x_ifne, x_iflt, x_ifge, x_ifgt, x_ifle, x_cmpeq, x_cmpne, x_cmplt, x_cmpge, x_cmpgt, x_cmple, x_null, x_nonnull, x_acmpeq, x_acmpne, x_get, x_put, x_putz, x_ald, x_ast, x_bast, x_zast, x_aast, x_alen, x_obj, x_ret, x_retz, x_vret, x_max, x_min, x_copy, x_i2l, qg_none, qg_inl, qg_inr, qg_ite, xr1, xr0, xrE, xri, xl0, xl1, xl2, xl3, xl4, xl5, xl6, xl7, xl8, xl9, xl10, xs0, xs1, xs2, xs3, xs4, xs5, xs6, xs7, xs8, xs9, xs10, xi0, xi1, xi2, xi3, xi4, xi5, xi6, xi7, xi8, xi9, xi10, xc0, xc1, xc2, xc3, xc4, xc5, xc6, xc7, xv1, xv2, xv3, xv4, xv5, xv6, xv7, dT_le, dF_le, dT_lt, dF_lt, dF_eq, kS, kB, eB, hp, ih']
  unfold f_X9_leastFork
  refine qa_fn_eq ?_ (by simp)
  simp (disch := omega) [ev_X9_leastFork_0, ev_X9_leastFork_2, B_X9_leastFork_0, B_X9_leastFork_1, B_X9_leastFork_2, x_const, x_iadd, x_isub, x_imul, x_idiv, x_irem, x_ineg, x_dup, x_dup_x1, x_dup2, x_pop, x_goto, x_ifeq, x_ifne, x_iflt, x_ifge, x_ifgt, x_ifle, x_cmpeq, x_cmpne, x_cmplt, x_cmpge, x_cmpgt, x_cmple, x_null, x_nonnull, x_acmpeq, x_acmpne, x_get, x_put, x_putz, x_ald, x_ast, x_bast, x_zast, x_aast, x_alen, x_obj, x_ret, x_retz, x_vret, x_max, x_min, x_copy, x_i2l, qg_none, qg_inl, qg_inr, qg_ite, xr1, xr0, xrE, xri, xl0, xl1, xl2, xl3, xl4, xl5, xl6, xl7, xl8, xl9, xl10, xs0, xs1, xs2, xs3, xs4, xs5, xs6, xs7, xs8, xs9, xs10, xi0, xi1, xi2, xi3, xi4, xi5, xi6, xi7, xi8, xi9, xi10, xc0, xc1, xc2, xc3, xc4, xc5, xc6, xc7, xv1, xv2, xv3, xv4, xv5, xv6, xv7, dT_le, dF_le, dT_lt, dF_lt, loop 4 0 f 1073741824 (by decide) (by decide) hf (zdep_4 hT hf) hu]
theorem zab_self {A : zA} (hT : zT A) {o : Int} (ho : zBl A o) : ∀ (n : Nat) (t : Int), zdep A n t → t ≠ -1 → True := fun _ _ _ _ => trivial
theorem c_alikeUpTo {m : Int → Int → Int} {kd : Int → Nat × Int} {w : Nat × Nat × Nat} {A : zA} {S : Int} (hK : KS kd S) (hC : RC A m kd S) {M : Int} (hW : zW M A) (hT : zT A) (hS : 0 ≤ S) {o f : Int} (ho : zBl A o) (hf : zBl A f) : f_X9_alikeUpTo [(1, S), (1, S + 4 + 2 * f), (1, S + 4 + 2 * o)] (m, kd, w) = some (.inl (some (0, zcommon A f o)), (m, kd, w)) := by
  obtain ⟨s1, s2, s3⟩ := id ho
  obtain ⟨f1, f2', f3'⟩ := id hf
  have loop : ∀ (n : Nat) (k x : Int), 0 ≤ k → k + n = 4 → zBl A x → zdep A n x → qa_ev P_X9_alikeUpTo 2 [(1, S), (1, S + 4 + 2 * f), (1, S + 4 + 2 * o), (1, S + 4 + 2 * x), (0, k)] [] (m, kd, w) = qa_ev P_X9_alikeUpTo 3 [(1, S), (1, S + 4 + 2 * f), (1, S + 4 + 2 * o), (1, S + 4 + 2 * zmeet A o n x), (0, k)] [] (m, kd, w) ∨ ∃ k', qa_ev P_X9_alikeUpTo 2 [(1, S), (1, S + 4 + 2 * f), (1, S + 4 + 2 * o), (1, S + 4 + 2 * x), (0, k)] [] (m, kd, w) = qa_ev P_X9_alikeUpTo 3 [(1, S), (1, S + 4 + 2 * f), (1, S + 4 + 2 * o), (1, S + 4 + 2 * zmeet A o n x), (0, k')] [] (m, kd, w) := by
    intro n
    induction n with
    | zero =>
      intro k x h1 h2 h3 h4
      exfalso
      have := h3.1
      have : x = -1 := h4
      omega
    | succ n ih =>
      intro k x h1 h2 h3 h4
      obtain ⟨x1, x2, x3⟩ := id h3
      have hxn : x ≠ -1 := by omega
      have u : zmeet A o (n + 1) x = if zab A x 4 o = 1 then x else zmeet A o n (A.2.1 x 2) := rfl
      rcases h4 with h4 | ⟨-, h4⟩
      · exact absurd h4 hxn
      have hw := c_isOnWay (w := w) hK hC hW hT hS h3 ho
      rw [ev_X9_alikeUpTo_2]
      rcases zab_01 A x 4 o with e | e
      · rw [if_neg (by omega)] at u
        rw [u]
        rw [e] at hw
        rcases zpar hT h3 with h | h
        · exfalso
          rw [h.1] at e
          have := zab_root hT 4 o (zdep_4 hT ho) (by omega)
          omega
        · have hp := c_parentOf (w := w) hK hC (b := x) x1 x2 (by have := h.2.1.2.1; omega)
          rw [if_neg (by have := h.2.1.1; omega)] at hp
          have ih' := ih (k + 1) (A.2.1 x 2) (by omega) (by omega) h.2.1 h4
          have ex : ∃ k', qa_ev P_X9_alikeUpTo 2 [(1, S), (1, S + 4 + 2 * f), (1, S + 4 + 2 * o), (1, S + 4 + 2 * A.2.1 x 2), (0, k + 1)] [] (m, kd, w) = qa_ev P_X9_alikeUpTo 3 [(1, S), (1, S + 4 + 2 * f), (1, S + 4 + 2 * o), (1, S + 4 + 2 * zmeet A o n (A.2.1 x 2)), (0, k')] [] (m, kd, w) := by
            rcases ih' with q | q
            · exact ⟨_, q⟩
            · exact q
          obtain ⟨k', hk'⟩ := ex
          refine Or.inr ⟨k', ?_⟩
          obtain ⟨⟨f2, f3, f4, fV, fW, f0, f8, f9, f7⟩, e0, e1, eC, eB, eR, eD, eL, eE⟩ := id hC
          obtain ⟨kN, kS, kC, kV, kW, kB, kE, kR, kD, kL⟩ := id hK
          simp (disch := omega) [B_X9_alikeUpTo_2, x_const, x_iadd, x_isub, x_imul, x_idiv, x_irem, x_ineg, x_dup, x_dup_x1, x_dup2, x_pop, x_goto, x_ifeq, x_ifne, x_iflt, x_ifge, x_ifgt, x_ifle, x_cmpeq, x_cmpne, x_cmplt, x_cmpge, x_cmpgt, x_cmple, x_null, x_nonnull, x_acmpeq, x_acmpne, x_get, x_put, x_putz, x_ald, x_ast, x_bast, x_zast, x_aast, x_alen, x_obj, x_ret, x_retz, x_vret, x_max, x_min, x_copy, x_i2l, qg_none, qg_inl, qg_inr, qg_ite, xr1, xr0, xrE, xri, xl0, xl1, xl2, xl3, xl4, xl5, xl6, xl7, xl8, xl9, xl10, xs0, xs1, xs2, xs3, xs4, xs5, xs6, xs7, xs8, xs9, xs10, xi0, xi1, xi2, xi3, xi4, xi5, xi6, xi7, xi8, xi9, xi10, xc0, xc1, xc2, xc3, xc4, xc5, xc6, xc7, xv1, xv2, xv3, xv4, xv5, xv6, xv7, dT_le, dF_le, dT_lt, dF_lt, dF_eq, kS, hw, hp, hk']
      · rw [if_pos e] at u
        rw [u]
        rw [e] at hw
        refine Or.inl ?_
        obtain ⟨⟨f2, f3, f4, fV, fW, f0, f8, f9, f7⟩, e0, e1, eC, eB, eR, eD, eL, eE⟩ := id hC
        obtain ⟨kN, kS, kC, kV, kW, kB, kE, kR, kD, kL⟩ := id hK
        simp (disch := omega) [B_X9_alikeUpTo_2, x_const, x_iadd, x_isub, x_imul, x_idiv, x_irem, x_ineg, x_dup, x_dup_x1, x_dup2, x_pop, x_goto, x_ifeq, x_ifne, x_iflt, x_ifge, x_ifgt, x_ifle, x_cmpeq, x_cmpne, x_cmplt, x_cmpge, x_cmpgt, x_cmple, x_null, x_nonnull, x_acmpeq, x_acmpne, x_get, x_put, x_putz, x_ald, x_ast, x_bast, x_zast, x_aast, x_alen, x_obj, x_ret, x_retz, x_vret, x_max, x_min, x_copy, x_i2l, qg_none, qg_inl, qg_inr, qg_ite, xr1, xr0, xrE, xri, xl0, xl1, xl2, xl3, xl4, xl5, xl6, xl7, xl8, xl9, xl10, xs0, xs1, xs2, xs3, xs4, xs5, xs6, xs7, xs8, xs9, xs10, xi0, xi1, xi2, xi3, xi4, xi5, xi6, xi7, xi8, xi9, xi10, xc0, xc1, xc2, xc3, xc4, xc5, xc6, xc7, xv1, xv2, xv3, xv4, xv5, xv6, xv7, dT_le, dF_le, dT_lt, dF_lt, kS, hw]
  unfold zcommon
  by_cases e : f = o
  · subst e
    obtain ⟨⟨f2, f3, f4, fV, fW, f0, f8, f9, f7⟩, e0, e1, eC, eB, eR, eD, eL, eE⟩ := id hC
    obtain ⟨kN, kS, kC, kV, kW, kB, kE, kR, kD, kL⟩ := id hK
    rw [if_pos rfl]
    unfold f_X9_alikeUpTo
    refine qa_fn_eq ?_ (by simp)
    simp (disch := omega) [ev_X9_alikeUpTo_0, ev_X9_alikeUpTo_1, ev_X9_alikeUpTo_3, B_X9_alikeUpTo_0, B_X9_alikeUpTo_1, B_X9_alikeUpTo_2, B_X9_alikeUpTo_3, x_const, x_iadd, x_isub, x_imul, x_idiv, x_irem, x_ineg, x_dup, x_dup_x1, x_dup2, x_pop, x_goto, x_ifeq, x_ifne, x_iflt, x_ifge, x_ifgt, x_ifle, x_cmpeq, x_cmpne, x_cmplt, x_cmpge, x_cmpgt, x_cmple, x_null, x_nonnull, x_acmpeq, x_acmpne, x_get, x_put, x_putz, x_ald, x_ast, x_bast, x_zast, x_aast, x_alen, x_obj, x_ret, x_retz, x_vret, x_max, x_min, x_copy, x_i2l, qg_none, qg_inl, qg_inr, qg_ite, xr1, xr0, xrE, xri, xl0, xl1, xl2, xl3, xl4, xl5, xl6, xl7, xl8, xl9, xl10, xs0, xs1, xs2, xs3, xs4, xs5, xs6, xs7, xs8, xs9, xs10, xi0, xi1, xi2, xi3, xi4, xi5, xi6, xi7, xi8, xi9, xi10, xc0, xc1, xc2, xc3, xc4, xc5, xc6, xc7, xv1, xv2, xv3, xv4, xv5, xv6, xv7, dT_le, dF_le, dT_lt, dF_lt, kB, eB]
  · rw [if_neg e]
    have hd := zdep_4 hT hf
    have hm := zmeet_ok hT ho 4 f hd (by omega)
    have hup := zmeet_up hT ho 4 f hd (by omega)
    have l1 := c_leastFork (w := w) hK hC hW hT hS hm.1 hf hup
    have l2 := c_leastFork (w := w) hK hC hW hT hS hm.1 ho hm.2
    have ex : ∃ k', qa_ev P_X9_alikeUpTo 2 [(1, S), (1, S + 4 + 2 * f), (1, S + 4 + 2 * o), (1, S + 4 + 2 * f), (0, 0)] [] (m, kd, w) = qa_ev P_X9_alikeUpTo 3 [(1, S), (1, S + 4 + 2 * f), (1, S + 4 + 2 * o), (1, S + 4 + 2 * zmeet A o 4 f), (0, k')] [] (m, kd, w) := by
      rcases loop 4 0 f (by decide) (by decide) hf hd with q | q
      · exact ⟨_, q⟩
      · exact q
    obtain ⟨k', hk'⟩ := ex
    obtain ⟨⟨f2, f3, f4, fV, fW, f0, f8, f9, f7⟩, e0, e1, eC, eB, eR, eD, eL, eE⟩ := id hC
    obtain ⟨kN, kS, kC, kV, kW, kB, kE, kR, kD, kL⟩ := id hK
    unfold f_X9_alikeUpTo
    refine qa_fn_eq ?_ (by simp)
    simp (disch := omega) [ev_X9_alikeUpTo_0, ev_X9_alikeUpTo_1, ev_X9_alikeUpTo_3, B_X9_alikeUpTo_0, B_X9_alikeUpTo_1, B_X9_alikeUpTo_2, B_X9_alikeUpTo_3, x_const, x_iadd, x_isub, x_imul, x_idiv, x_irem, x_ineg, x_dup, x_dup_x1, x_dup2, x_pop, x_goto, x_ifeq, x_ifne, x_iflt, x_ifge, x_ifgt, x_ifle, x_cmpeq, x_cmpne, x_cmplt, x_cmpge, x_cmpgt, x_cmple, x_null, x_nonnull, x_acmpeq, x_acmpne, x_get, x_put, x_putz, x_ald, x_ast, x_bast, x_zast, x_aast, x_alen, x_obj, x_ret, x_retz, x_vret, x_max, x_min, x_copy, x_i2l, qg_none, qg_inl, qg_inr, qg_ite, xr1, xr0, xrE, xri, xl0, xl1, xl2, xl3, xl4, xl5, xl6, xl7, xl8, xl9, xl10, xs0, xs1, xs2, xs3, xs4, xs5, xs6, xs7, xs8, xs9, xs10, xi0, xi1, xi2, xi3, xi4, xi5, xi6, xi7, xi8, xi9, xi10, xc0, xc1, xc2, xc3, xc4, xc5, xc6, xc7, xv1, xv2, xv3, xv4, xv5, xv6, xv7, dT_le, dF_le, dT_lt, dF_lt, dF_eq, kS, hk', l1, l2]
