def ztd (A : zA) (x : Int) : Int := if A.2.1 x 1 = 1 then A.2.1 x 5 - A.2.1 x 3 else 0
theorem zphi_3 (A : zA) : zphi A = A.2.1 0 5 + (ztd A 1 + ztd A 2 + ztd A 3) := by
  unfold zphi zsum ztd
  simp only [zsf]
  simp
  omega
theorem ztd_0 {A : zA} (hT : zT A) {x : Int} (hx : 0 < x ∧ x < 4) : 0 ≤ ztd A x ∧ (A.2.1 x 1 = 1 → A.2.1 x 5 ≤ A.2.1 (A.2.1 x 2) 5 + ztd A x ∧ ztd A x = A.2.1 x 5 - A.2.1 x 3) := by
  obtain ⟨h1, h2, h3, rk, h⟩ := hT
  unfold ztd
  by_cases c : A.2.1 x 1 = 1
  · obtain ⟨p1, q1, q2, q3, q4⟩ := h x hx.1 hx.2 c
    rw [if_pos c]
    exact ⟨by omega, fun _ => ⟨by omega, rfl⟩⟩
  · rw [if_neg c]
    exact ⟨by omega, fun z => absurd z c⟩
theorem zT_end {A : zA} (hT : zT A) {b : Int} (hb : zBl A b) : A.2.1 b 5 ≤ zphi A ∧ (b ≠ 0 → A.2.1 (A.2.1 b 2) 5 + (A.2.1 b 5 - A.2.1 b 3) ≤ zphi A) ∧ A.2.1 0 5 ≤ zphi A := by
  have t1 := ztd_0 hT (x := 1) (by decide)
  have t2 := ztd_0 hT (x := 2) (by decide)
  have t3 := ztd_0 hT (x := 3) (by decide)
  obtain ⟨h1, h2, h3, rk, h⟩ := id hT
  rw [zphi_3]
  by_cases b0 : b = 0
  · subst b0
    exact ⟨by omega, fun z => absurd rfl z, by omega⟩
  have hbr : 0 < b ∧ b < 4 := ⟨by have := hb.1; omega, hb.2.1⟩
  obtain ⟨p1, q1, q2, q3, q4⟩ := h b hbr.1 hbr.2 hb.2.2
  obtain ⟨tb0, tb1⟩ := ztd_0 hT hbr
  obtain ⟨tb1, tb2⟩ := tb1 hb.2.2
  have key : A.2.1 (A.2.1 b 2) 5 + ztd A b ≤ A.2.1 0 5 + (ztd A 1 + ztd A 2 + ztd A 3) := by
    generalize hc : A.2.1 b 2 = c at p1 q1 q4 tb1 ⊢
    by_cases c0 : c = 0
    · subst c0
      have : b = 1 ∨ b = 2 ∨ b = 3 := by omega
      rcases this with rfl | rfl | rfl <;> omega
    have hcr : 0 < c ∧ c < 4 := ⟨by have := p1.1; omega, p1.2.1⟩
    obtain ⟨p1', q1', q2', q3', q4'⟩ := h c hcr.1 hcr.2 p1.2.2
    obtain ⟨tc0, tc1⟩ := ztd_0 hT hcr
    obtain ⟨tc1, tc2⟩ := tc1 p1.2.2
    have hbc : b ≠ c := fun z => by rw [z] at q1; omega
    generalize he : A.2.1 c 2 = e at p1' q1' q4' tc1
    by_cases e0 : e = 0
    · subst e0
      have : (b = 1 ∧ c = 2) ∨ (b = 1 ∧ c = 3) ∨ (b = 2 ∧ c = 1) ∨ (b = 2 ∧ c = 3) ∨ (b = 3 ∧ c = 1) ∨ (b = 3 ∧ c = 2) := by omega
      rcases this with ⟨rfl, rfl⟩ | ⟨rfl, rfl⟩ | ⟨rfl, rfl⟩ | ⟨rfl, rfl⟩ | ⟨rfl, rfl⟩ | ⟨rfl, rfl⟩ <;> omega
    have her : 0 < e ∧ e < 4 := ⟨by have := p1'.1; omega, p1'.2.1⟩
    obtain ⟨p1'', q1'', q2'', q3'', q4''⟩ := h e her.1 her.2 p1'.2.2
    obtain ⟨te0, te1⟩ := ztd_0 hT her
    obtain ⟨te1, te2⟩ := te1 p1'.2.2
    have hce : c ≠ e := fun z => by rw [z] at q1'; omega
    have hbe : b ≠ e := fun z => by rw [z] at q1; omega
    generalize hf : A.2.1 e 2 = f at p1'' q1'' q4'' te1
    have hf0 : f = 0 := by
      apply Classical.byContradiction
      intro hne
      have : f = b ∨ f = c ∨ f = e := by have := p1''.1; have := p1''.2.1; omega
      rcases this with z | z | z <;> rw [z] at q1'' <;> omega
    subst hf0
    have : (b = 1 ∧ c = 2 ∧ e = 3) ∨ (b = 1 ∧ c = 3 ∧ e = 2) ∨ (b = 2 ∧ c = 1 ∧ e = 3) ∨ (b = 2 ∧ c = 3 ∧ e = 1) ∨ (b = 3 ∧ c = 1 ∧ e = 2) ∨ (b = 3 ∧ c = 2 ∧ e = 1) := by omega
    rcases this with ⟨rfl, rfl, rfl⟩ | ⟨rfl, rfl, rfl⟩ | ⟨rfl, rfl, rfl⟩ | ⟨rfl, rfl, rfl⟩ | ⟨rfl, rfl, rfl⟩ | ⟨rfl, rfl, rfl⟩ <;> omega
  exact ⟨by omega, fun _ => by omega, by omega⟩
theorem zT_congr {A A' : zA} (h : ∀ b j, (j = 1 ∨ j = 2 ∨ j = 3 ∨ j = 5) → A'.2.1 b j = A.2.1 b j) (hT : zT A) : zT A' ∧ zphi A' = zphi A := by
  have e1 := fun b => h b 1 (by decide)
  have e2 := fun b => h b 2 (by decide)
  have e3 := fun b => h b 3 (by decide)
  have e5 := fun b => h b 5 (by decide)
  have hbl : ∀ b, zBl A' b ↔ zBl A b := fun b => by
    unfold zBl
    rw [e1]
  obtain ⟨h1, h2, h3, rk, hh⟩ := hT
  refine ⟨⟨by rw [e1]; exact h1, by rw [e2]; exact h2, by rw [e3]; exact h3, rk, fun b b1 b2 b3 => ?_⟩, ?_⟩
  · rw [e1] at b3
    obtain ⟨p1, q1, q2, q3, q4⟩ := hh b b1 b2 b3
    rw [e2, e3, e5, e5]
    exact ⟨(hbl _).mpr p1, q1, q2, q3, q4⟩
  · rw [zphi_3, zphi_3]
    unfold ztd
    rw [e1, e1, e1, e3, e3, e3, e5, e5, e5, e5]
def zI (N : Int) (A : zA) : Prop := zW (512 * N) A ∧ zT A ∧ zphi A ≤ A.1 1 ∧ A.1 1 ≤ N ∧ A.1 0 ≤ 99 * N
theorem zI_mono {N N' : Int} {A : zA} (h : zI N A) (hN : N ≤ N' ∧ N' ≤ 900) : zI N' A := ⟨zW_mono h.1 (by omega), h.2.1, h.2.2.1, by have := h.2.2.2.1; omega, by have := h.2.2.2.2; omega⟩
theorem zI_end {N : Int} {A : zA} (h : zI N A) {b : Int} (hb : zBl A b) : A.2.1 b 5 ≤ N ∧ (b ≠ 0 → A.2.1 (A.2.1 b 2) 5 + (A.2.1 b 5 - A.2.1 b 3) ≤ N) := by
  have e := zT_end h.2.1 hb
  have h1 := h.2.2.1
  have h2 := h.2.2.2.1
  exact ⟨by omega, fun z => by have := e.2.1 z; omega⟩
theorem zI_0 {N : Int} {A : zA} (h : zI N A) : 0 ≤ N ∧ 0 ≤ A.1 0 := by
  have h1 := h.1.1
  omega
theorem zI_of {N : Int} {A A' : zA} (h : zI N A) (hW : zW (512 * (N + 1)) A') (hB : ∀ b j, (j = 1 ∨ j = 2 ∨ j = 3 ∨ j = 5) → A'.2.1 b j = A.2.1 b j) (h1 : A'.1 1 = A.1 1) (h0 : A'.1 0 ≤ A.1 0 + 99) : zI (N + 1) A' := by
  obtain ⟨g1, g2, g3, g4, g5⟩ := h
  obtain ⟨t1, t2⟩ := zT_congr hB g2
  exact ⟨hW, t1, by rw [t2, h1]; exact g3, by rw [h1]; omega, by omega⟩
theorem zI_leave {N : Int} {A : zA} (h : zI N A) (hN : N ≤ 600) (r : Int) : zI (N + 1) (zSetR A r 0 0) := zI_of h (zW_mono (zW_leave h.1) (by omega)) (fun _ _ _ => rfl) rfl (by show A.1 0 ≤ _; omega)
theorem zI_promise {N : Int} {A : zA} (h : zI N A) (hN : N ≤ 600) {r t : Int} (ht : 1 ≤ t ∧ t ≤ 60) : zI (N + 1) (zSetR A r 4 (A.1 0 + t)) := by
  have h0 := zI_0 h
  refine zI_of h (zW_mono (zW_setR h.1 (by decide) (fun ha hr1 hr2 => ?_)) (by omega)) (fun _ _ _ => rfl) rfl (by show A.1 0 ≤ _; omega)
  have hwr := h.1.2.2.2.2.2.2.2.1 r hr1 hr2 ha
  unfold zWr at hwr ⊢
  have e : ∀ j, j ≠ 4 → (zSetR A r 4 (A.1 0 + t)).2.2.1 r j = A.2.2.1 r j := fun j hj => if_neg (fun z => hj z.2)
  have e4 : (zSetR A r 4 (A.1 0 + t)).2.2.1 r 4 = A.1 0 + t := if_pos ⟨rfl, rfl⟩
  rw [e 1 (by decide), e 2 (by decide), e 3 (by decide), e4, e 5 (by decide), e 6 (by decide), e 7 (by decide), e 8 (by decide)]
  obtain ⟨a1, a2, a3, a4, a5, a6, a7, a8⟩ := hwr
  exact ⟨a1, a2, a3, a4, a5, by show -1 ≤ A.1 0 + t; omega, by show A.1 0 + t ≤ A.1 0 + 60; omega, a8⟩
theorem zlf_end {A : zA} (hT : zT A) {t : Int} : ∀ (n : Nat) (x l : Int), zBl A x → x ≠ t → zab A t n x = 1 → zlf A t n x l ≤ A.2.1 t 5 := by
  intro n
  induction n with
  | zero => intro x l _ _ h; simp only [zab] at h; omega
  | succ n ih =>
    intro x l hx hne h
    have hx1 : x ≠ -1 := by have := hx.1; omega
    simp only [zab] at h
    rw [if_neg hx1, if_neg hne] at h
    simp only [zlf]
    rw [if_neg hne]
    by_cases x0 : x = 0
    · exfalso
      subst x0
      rw [hT.2.1] at h
      cases n with
      | zero => simp only [zab] at h; omega
      | succ n => simp [zab] at h
    · obtain ⟨-, -, -, rk, hh⟩ := id hT
      obtain ⟨p1, q1, q2, q3, q4⟩ := hh x (by have := hx.1; omega) hx.2.1 hx.2.2
      by_cases e : A.2.1 x 2 = t
      · have hle := zlf_le A t n (A.2.1 x 2) (if A.2.1 x 3 < l then A.2.1 x 3 else l)
        rw [e] at q4
        have : (if A.2.1 x 3 < l then A.2.1 x 3 else l) ≤ A.2.1 x 3 := by split <;> omega
        omega
      · exact ih _ _ p1 e h
theorem zcommon_le {A : zA} (hT : zT A) {x y : Int} (hx : zBl A x) (hy : zBl A y) (hne : x ≠ y) : zcommon A x y ≤ A.2.1 y 5 := by
  unfold zcommon
  rw [if_neg hne]
  have hx1 : x ≠ -1 := by have := hx.1; omega
  obtain ⟨m1, m2⟩ := zmeet_ok hT hy 4 x (zdep_4 hT hx) hx1
  have m3 := zmeet_up hT hy 4 x (zdep_4 hT hx) hx1
  generalize zmeet A y 4 x = t at m1 m2 m3
  by_cases e : y = t
  · subst e
    have h := zlf_end hT 4 x 1073741824 hx hne m3
    split <;> omega
  · have h : zlf A t 4 y 1073741824 ≤ A.2.1 y 5 := by
      show (if y = t then (1073741824 : Int) else zlf A t 3 (A.2.1 y 2) (if A.2.1 y 3 < 1073741824 then A.2.1 y 3 else 1073741824)) ≤ _
      rw [if_neg e]
      have hle := zlf_le A t 3 (A.2.1 y 2) (if A.2.1 y 3 < 1073741824 then A.2.1 y 3 else 1073741824)
      have : (if A.2.1 y 3 < 1073741824 then A.2.1 y 3 else 1073741824) ≤ A.2.1 y 3 := by split <;> omega
      rcases zpar hT hy with ⟨z1, z2, z3⟩ | ⟨z1, z2, z3, z4⟩
      · exfalso
        subst z1
        have : zab A t 4 0 = 0 := by
          simp only [zab]
          rw [if_neg (by decide), if_neg e, hT.2.1, if_pos rfl]
        rw [this] at m2
        omega
      · omega
    split <;> omega
theorem zI_move {N : Int} {A : zA} (h : zI N A) (hN : N ≤ 600) {r b : Int} (hr : zRl A r) (hb : zBl A b) (hm : ¬ (A.2.2.1 r 1 = b ∨ zcommon A (A.2.2.1 r 1) b < A.2.2.1 r 2 ∨ A.2.2.1 r 2 < A.2.1 b 4)) : zI (N + 1) (zMove A r b) := by
  have h0 := zI_0 h
  have hwr := h.1.2.2.2.2.2.2.2.1 r hr.1 hr.2.1 hr.2.2
  unfold zWr at hwr
  obtain ⟨a1, a2, a3, a4, a5, a6⟩ := hwr
  have hc := zcommon_le h.2.1 a1 hb (fun z => hm (Or.inl z))
  have c2 : ¬ zcommon A (A.2.2.1 r 1) b < A.2.2.1 r 2 := fun z => hm (Or.inr (Or.inl z))
  have c3 : ¬ A.2.2.1 r 2 < A.2.1 b 4 := fun z => hm (Or.inr (Or.inr z))
  have w1 : zW (512 * N) (zSetR A r 1 b) := zW_setR h.1 (by decide) (fun _ _ _ => by
    unfold zWr
    have e : ∀ j, j ≠ 1 → (zSetR A r 1 b).2.2.1 r j = A.2.2.1 r j := fun j hj => if_neg (fun z => hj z.2)
    have e1 : (zSetR A r 1 b).2.2.1 r 1 = b := if_pos ⟨rfl, rfl⟩
    rw [e1, e 2 (by decide), e 3 (by decide), e 4 (by decide), e 5 (by decide), e 6 (by decide), e 7 (by decide), e 8 (by decide)]
    exact ⟨hb, by show A.2.1 b 4 ≤ _; omega, by show _ ≤ A.2.1 b 5; omega, a4, a5, a6⟩)
  have w2 : zW (512 * N) (zMove A r b) := zW_setR w1 (by decide) (fun _ _ _ => by
    unfold zWr
    have hz := w1.2.2.2.2.2.2.2.1 r hr.1 hr.2.1 (by rw [zSetR_R, if_neg (by omega)]; exact hr.2.2)
    unfold zWr at hz
    have e : ∀ j, j ≠ 3 → (zSetR (zSetR A r 1 b) r 3 (A.1 0)).2.2.1 r j = (zSetR A r 1 b).2.2.1 r j := fun j hj => if_neg (fun z => hj z.2)
    have e3 : (zSetR (zSetR A r 1 b) r 3 (A.1 0)).2.2.1 r 3 = A.1 0 := if_pos ⟨rfl, rfl⟩
    rw [e 1 (by decide), e 2 (by decide), e3, e 4 (by decide), e 5 (by decide), e 6 (by decide), e 7 (by decide), e 8 (by decide)]
    obtain ⟨b1, b2, b3, b4, b5, b6⟩ := hz
    exact ⟨b1, b2, b3, by show 0 ≤ A.1 0; omega, Int.le_refl _, b6⟩)
  exact zI_of h (zW_mono w2 (by omega)) (fun _ _ _ => rfl) rfl (by show A.1 0 ≤ _; omega)
theorem zI_join {N : Int} {A : zA} (h : zI N A) (hN : N ≤ 600) {r b p : Int} (hb : zBl A b) (hp : A.2.1 b 4 ≤ p ∧ p ≤ A.2.1 b 5) : zI (N + 1) (zJoin A r b p) := by
  have h0 := zI_0 h
  exact zI_of h (zW_mono (zW_join h.1 hb hp) (by omega)) (fun _ _ _ => rfl) rfl (by show A.1 0 ≤ _; omega)
theorem zI_read {N : Int} {A : zA} (h : zI N A) (hN : N ≤ 600) {r it : Int} (hr : zRl A r) (hi : 1 ≤ it ∧ it ≤ 99) : zI (N + 1) (zRead A r it) := by
  have h0 := zI_0 h
  exact zI_of h (zW_mono (zW_read h.1 (by omega) hr hi) (by omega)) (fun _ _ _ => rfl) rfl (by show A.1 0 ≤ _; omega)
theorem zI_pass {N : Int} {A : zA} (h : zI N A) (hN : N ≤ 600) (st : Int → Int) {t : Int} (ht : 1 ≤ t ∧ t ≤ 99) : zI (N + 1) (zTicks st t.toNat A) := by
  have h0 := zI_0 h
  have h5 := h.2.2.2.2
  obtain ⟨w1, w2, w3⟩ := zW_ticks st h.1 t.toNat (by omega)
  exact zI_of h (zW_mono w1 (by omega)) (fun b j hj => w2.2.1 b j (by omega) (by omega) (by omega)) w2.1 (by omega)
