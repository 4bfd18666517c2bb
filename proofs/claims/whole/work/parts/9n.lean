theorem zT_up {A A' : zA} (hT : zT A) (hL : ∀ c, 0 ≤ c → c < 4 → A'.2.1 c 1 = 1 → A.2.1 c 1 = 1) (h0 : A'.2.1 0 1 = 1) (h2 : ∀ c, A'.2.1 c 2 = A.2.1 c 2) (h3 : ∀ c, A'.2.1 c 3 = A.2.1 c 3) (h5 : ∀ c, 0 ≤ c → c < 4 → A.2.1 c 5 ≤ A'.2.1 c 5) (hp : ∀ c, 0 < c → c < 4 → A'.2.1 c 1 = 1 → A'.2.1 (A.2.1 c 2) 1 = 1) : zT A' := by
  obtain ⟨g1, g2, g3, rk, hh⟩ := hT
  refine ⟨h0, by rw [h2]; exact g2, by rw [h3]; exact g3, rk, fun c c1 c2 c3 => ?_⟩
  obtain ⟨p1, q1, q2, q3, q4⟩ := hh c c1 c2 (hL c (by omega) c2 c3)
  rw [h2, h3]
  have a5 := h5 c (by omega) c2
  have b5 := h5 _ p1.1 p1.2.1
  exact ⟨⟨p1.1, p1.2.1, hp c c1 c2 c3⟩, q1, q2, by omega, by omega⟩
theorem zI_append {N : Int} {A : zA} (h : zI N A) (hN : N ≤ 511) (st : Int → Int) {b k s v : Int} (hb : zBl A b) (hk : 0 ≤ k ∧ k ≤ 9) (hs : 1 ≤ s ∧ s ≤ 9) (hv : -99 ≤ v ∧ v ≤ 99) : zI (N + 1) (zApp st A b k s v) := by
  have h0 := zI_0 h
  have he := (zI_end h hb).1
  obtain ⟨g1, g2, g3, g4, g5⟩ := h
  obtain ⟨a1, a2, a3⟩ := zW_app st g1 hb (by omega) (by omega) (by omega) hk hs hv
  have kk := (zW_cutB st a1 a2).2
  change zK0 _ (zApp st A b k s v) at kk
  have e5 : ∀ c, (zOne (zAdd A b (A.1 0) k s v)).2.1 c 5 = if c = b then A.2.1 b 5 + 1 else A.2.1 c 5 := fun c => by
    show (zAdd A b (A.1 0) k s v).2.1 c 5 = _
    by_cases e : c = b
    · rw [if_pos e, e, zAdd_5]
    · rw [if_neg e, zAdd_o A 5 e]
  have ej : ∀ c j, (j = 1 ∨ j = 2 ∨ j = 3) → (zOne (zAdd A b (A.1 0) k s v)).2.1 c j = A.2.1 c j := fun c j hj => zAdd_j A b (A.1 0) k s v c (by omega) (by omega)
  have T1 : zT (zOne (zAdd A b (A.1 0) k s v)) := zT_up g2 (fun c _ _ hc => by rw [ej c 1 (by decide)] at hc; exact hc) (by rw [ej 0 1 (by decide)]; exact g2.1) (fun c => ej c 2 (by decide)) (fun c => ej c 3 (by decide)) (fun c _ _ => by rw [e5]; split <;> (try subst_vars) <;> omega) (fun c c1 c2 c3 => by
    rw [ej c 1 (by decide)] at c3
    obtain ⟨-, -, -, rk, hh⟩ := id g2
    rw [ej _ 1 (by decide)]
    exact (hh c c1 c2 c3).1.2.2)
  have P1 : zphi (zOne (zAdd A b (A.1 0) k s v)) = zphi A + 1 := by
    rw [zphi_3, zphi_3]
    unfold ztd
    rw [ej 1 1 (by decide), ej 2 1 (by decide), ej 3 1 (by decide), ej 1 3 (by decide), ej 2 3 (by decide), ej 3 3 (by decide), e5, e5, e5, e5]
    obtain ⟨b1, b2, b3⟩ := hb
    have : b = 0 ∨ b = 1 ∨ b = 2 ∨ b = 3 := by omega
    rcases this with rfl | rfl | rfl | rfl <;> simp [b3] <;> omega
  have n1 : (zOne (zAdd A b (A.1 0) k s v)).1 1 = A.1 1 + 1 := rfl
  have n0 : (zOne (zAdd A b (A.1 0) k s v)).1 0 = A.1 0 := rfl
  obtain ⟨t1, t2⟩ := zT_congr (A := zOne (zAdd A b (A.1 0) k s v)) (A' := zApp st A b k s v) (fun c j hj => kk.2.2.1 c j (by omega) (by omega) (by omega)) T1
  exact ⟨zW_mono a3 (by omega), t1, by rw [t2, P1, kk.2.1, n1]; omega, by rw [kk.2.1, n1]; omega, by rw [kk.1, n0]; omega⟩
theorem zI_drop {N : Int} {A : zA} (h : zI N A) (hN : N ≤ 600) {b : Int} (hb : zBl A b) (hn0 : b ≠ 0) (hk : zKids A b = 0) (hr : ∀ r, ¬ zIn A r b) : zI (N + 1) (zDrop A b) := by
  have h0 := zI_0 h
  obtain ⟨g1, g2, g3, g4, g5⟩ := h
  have ej : ∀ c j, j ≠ 1 → (zDrop A b).2.1 c j = A.2.1 c j := fun c j hj => zDrop_j A hj
  have e1 : ∀ c, c ≠ b → (zDrop A b).2.1 c 1 = A.2.1 c 1 := fun c hc => zDrop_o A 1 hc
  have T1 : zT (zDrop A b) := zT_up g2 (fun c _ _ hc => by
    by_cases e : c = b
    · rw [e, zDrop_b] at hc; omega
    · rw [e1 c e] at hc; exact hc) (by rw [e1 0 (fun z => hn0 z.symm)]; exact g2.1) (fun c => ej c 2 (by decide)) (fun c => ej c 3 (by decide)) (fun c _ _ => by rw [ej c 5 (by decide)]; exact Int.le_refl _) (fun c c1 c2 c3 => by
    have hcb : c ≠ b := fun z => by rw [z, zDrop_b] at c3; omega
    rw [e1 c hcb] at c3
    obtain ⟨-, -, -, rk, hh⟩ := id g2
    rw [e1 _ (fun z => zKids_n hk ⟨by omega, c2, c3⟩ z)]
    exact (hh c c1 c2 c3).1.2.2)
  have P1 : zphi (zDrop A b) ≤ zphi A := by
    have t := ztd_0 g2 (x := b) ⟨by have := hb.1; omega, hb.2.1⟩
    rw [zphi_3, zphi_3, ej 0 5 (by decide)]
    have tb : ztd (zDrop A b) b = 0 := by
      unfold ztd
      rw [zDrop_b, if_neg (by decide)]
    have to : ∀ c, c ≠ b → ztd (zDrop A b) c = ztd A c := fun c hc => by
      unfold ztd
      rw [e1 c hc, ej c 5 (by decide), ej c 3 (by decide)]
    have : b = 1 ∨ b = 2 ∨ b = 3 := by have := hb.1; have := hb.2.1; omega
    rcases this with rfl | rfl | rfl
    · have x2 := to 2 (by decide); have x3 := to 3 (by decide); omega
    · have x1 := to 1 (by decide); have x3 := to 3 (by decide); omega
    · have x1 := to 1 (by decide); have x2 := to 2 (by decide); omega
  exact ⟨zW_mono (zW_drop g1 hb hr) (by omega), T1, by show zphi (zDrop A b) ≤ A.1 1; omega, by show A.1 1 ≤ _; omega, by show A.1 0 ≤ _; omega⟩
theorem zI_fork {N : Int} {A : zA} (h : zI N A) (hN : N ≤ 600) {f b : Int} (hb : zBl A b) (f1 : 0 ≤ f ∧ f < 4) (hz0 : A.2.1 f 1 = 0) : zI (N + 1) (zFork A f b) := by
  have h0 := zI_0 h
  obtain ⟨g1, g2, g3, g4, g5⟩ := h
  have hf0 : f ≠ 0 := fun z => by rw [z, g2.1] at hz0; omega
  have hfb : f ≠ b := fun z => by rw [z, hb.2.2] at hz0; omega
  have w := zW_fork g1 hb f1 hz0 (by omega)
  have eo : ∀ c j, c ≠ f → (zFork A f b).2.1 c j = A.2.1 c j := fun c j hc => zFork_o A j hc
  have ef : ∀ j, (zFork A f b).2.1 f j = if j = 1 then 1 else if j = 2 then b else if j = 3 then A.2.1 b 5 else if j = 7 then 0 else A.2.1 b j := fun j => zFork_f A f b j
  have hbn := g1.bn hb
  have T1 : zT (zFork A f b) := by
    obtain ⟨t1, t2, t3, rk, hh⟩ := id g2
    refine ⟨by rw [eo 0 1 (fun z => hf0 z.symm)]; exact t1, by rw [eo 0 2 (fun z => hf0 z.symm)]; exact t2, by rw [eo 0 3 (fun z => hf0 z.symm)]; exact t3, fun x => if x = f then rk b + 1 else rk x, fun c c1 c2 c3 => ?_⟩
    by_cases e : c = f
    · subst e
      have e2 : (zFork A c b).2.1 c 2 = b := by rw [ef]; rfl
      have e3 : (zFork A c b).2.1 c 3 = A.2.1 b 5 := by rw [ef]; rfl
      have e5 : (zFork A c b).2.1 c 5 = A.2.1 b 5 := by rw [ef]; rfl
      rw [e2, e3, e5, eo b 5 (fun z => hfb z.symm)]
      refine ⟨⟨hb.1, hb.2.1, by rw [eo b 1 (fun z => hfb z.symm)]; exact hb.2.2⟩, ?_, by omega, Int.le_refl _, Int.le_refl _⟩
      dsimp only
      rw [if_neg (fun z => hfb z.symm), if_pos rfl]
      omega
    · rw [eo c 1 e] at c3
      obtain ⟨p1, q1, q2, q3, q4⟩ := hh c c1 c2 c3
      have hpf : A.2.1 c 2 ≠ f := fun z => by rw [z] at p1; have := p1.2.2; omega
      rw [eo c 2 e, eo c 3 e, eo c 5 e, eo _ 5 hpf]
      refine ⟨⟨p1.1, p1.2.1, by rw [eo _ 1 hpf]; exact p1.2.2⟩, ?_, q2, q3, q4⟩
      dsimp only
      rw [if_neg hpf, if_neg e]
      exact q1
  have P1 : zphi (zFork A f b) = zphi A := by
    rw [zphi_3, zphi_3, eo 0 5 (fun z => hf0 z.symm)]
    have tf : ztd (zFork A f b) f = 0 := by
      unfold ztd
      have e3 : (zFork A f b).2.1 f 3 = A.2.1 b 5 := by rw [ef]; rfl
      have e5 : (zFork A f b).2.1 f 5 = A.2.1 b 5 := by rw [ef]; rfl
      rw [e3, e5]
      split <;> omega
    have tf0 : ztd A f = 0 := by
      unfold ztd
      rw [hz0, if_neg (by decide)]
    have to : ∀ c, c ≠ f → ztd (zFork A f b) c = ztd A c := fun c hc => by
      unfold ztd
      rw [eo c 1 hc, eo c 5 hc, eo c 3 hc]
    have : f = 1 ∨ f = 2 ∨ f = 3 := by omega
    rcases this with rfl | rfl | rfl
    · rw [tf, tf0, to 2 (by decide), to 3 (by decide)]
    · rw [tf, tf0, to 1 (by decide), to 3 (by decide)]
    · rw [tf, tf0, to 1 (by decide), to 2 (by decide)]
  exact ⟨zW_mono w (by omega), T1, by rw [P1]; exact g3, by show A.1 1 ≤ _; omega, by show A.1 0 ≤ _; omega⟩
theorem zI_merge {N : Int} {A : zA} (h : zI N A) (hN : N ≤ 511) (st : Int → Int) {b : Int} (hb : zBl A b) (hy : zWhyM A b = 0) : zI (N + 1) (zMrg st A b) := by
  have h0 := zI_0 h
  have hend := zI_end h hb
  obtain ⟨g1, g2, g3, g4, g5⟩ := h
  have hn0 : b ≠ 0 ∧ zKids A b = 0 := by
    rcases zWhyM_0 A b with ⟨y1, y2⟩ | ⟨y1, y2, y3⟩ | ⟨y1, y2, y3⟩
    · omega
    · omega
    · exact zWhy_n y1
  have hpar := zpar g2 hb
  have hbn := g1.bn hb
  have hSt : A.2.1 b 3 ≤ zSt A b := by unfold zSt; split <;> omega
  obtain ⟨p1, p2, p3, p4, w1, w2, w3, w4, w5⟩ := zMrg_f st g1 g2 hb hy (by have := hend.2 hn0.1; omega) (by omega)
  have hpn := g1.bn p1
  obtain ⟨i1, i2, i3, i4, i5, i6, i7⟩ := zMg_f g1 hb p1 p2 p3.2.1 (A.2.1 b 5 - zSt A b).toNat (by omega) (by have := hend.2 hn0.1; omega) (by omega)
  have kk := (zW_cutB st w3 w4).2
  change zK0 _ (zMrg st A b) at kk
  have B3 : ∀ c j, c ≠ b → (j = 1 ∨ j = 2 ∨ j = 3) → (zMg3 A b).2.1 c j = A.2.1 c j := fun c j hc hj => by
    show (zDrop (zMg2 A b) b).2.1 c j = _
    rw [zDrop_o _ j hc]
    show (zMg1 A b).2.1 c j = _
    unfold zMg1
    by_cases e : c = A.2.1 b 2
    · rw [e]; exact i5 j (by omega) (by omega)
    · exact i2 c e j
  have Bb : ∀ j, (j = 2 ∨ j = 3) → (zMg3 A b).2.1 b j = A.2.1 b j := fun j hj => by
    show (zDrop (zMg2 A b) b).2.1 b j = _
    rw [zDrop_j _ (by omega)]
    show (zMg1 A b).2.1 b j = _
    unfold zMg1
    exact i2 b p2 j
  have Bb1 : (zMg3 A b).2.1 b 1 = 0 := zDrop_b _ b
  have B5 : ∀ c, (zMg3 A b).2.1 c 5 = if c = A.2.1 b 2 then A.2.1 c 5 + (A.2.1 b 5 - zSt A b) else A.2.1 c 5 := fun c => by
    show (zDrop (zMg2 A b) b).2.1 c 5 = _
    rw [zDrop_j _ (by decide)]
    show (zMg1 A b).2.1 c 5 = _
    unfold zMg1
    by_cases e : c = A.2.1 b 2
    · rw [if_pos e, e, i4]; omega
    · rw [if_neg e]; exact i2 c e 5
  have T3 : zT (zMg3 A b) := zT_up g2 (fun c _ _ hc => by
    by_cases e : c = b
    · rw [e, Bb1] at hc; omega
    · rw [B3 c 1 e (by decide)] at hc; exact hc) (by rw [B3 0 1 (fun z => hn0.1 z.symm) (by decide)]; exact g2.1) (fun c => by
    by_cases e : c = b
    · rw [e]; exact Bb 2 (by decide)
    · exact B3 c 2 e (by decide)) (fun c => by
    by_cases e : c = b
    · rw [e]; exact Bb 3 (by decide)
    · exact B3 c 3 e (by decide)) (fun c _ _ => by rw [B5]; split <;> omega) (fun c c1 c2 c3 => by
    have hcb : c ≠ b := fun z => by rw [z, Bb1] at c3; omega
    rw [B3 c 1 hcb (by decide)] at c3
    obtain ⟨-, -, -, rk, hh⟩ := id g2
    rw [B3 _ 1 (fun z => zKids_n hn0.2 ⟨by omega, c2, c3⟩ z) (by decide)]
    exact (hh c c1 c2 c3).1.2.2)
  have P3 : zphi (zMg3 A b) ≤ zphi A := by
    have t := ztd_0 g2 (x := b) ⟨by have := hb.1; omega, hb.2.1⟩
    have tb2 := (t.2 hb.2.2).2
    rw [zphi_3, zphi_3]
    have tb : ztd (zMg3 A b) b = 0 := by
      unfold ztd
      rw [Bb1, if_neg (by decide)]
    have to : ∀ c, c ≠ b → c ≠ A.2.1 b 2 → ztd (zMg3 A b) c = ztd A c := fun c hc hc2 => by
      unfold ztd
      rw [B3 c 1 hc (by decide), B5, if_neg hc2, B3 c 3 hc (by decide)]
    have tp : ztd (zMg3 A b) (A.2.1 b 2) = ztd A (A.2.1 b 2) + (A.2.1 b 5 - zSt A b) := by
      unfold ztd
      rw [B3 _ 1 (fun z => p2 z.symm) (by decide), B5, if_pos rfl, B3 _ 3 (fun z => p2 z.symm) (by decide), if_pos p1.2.2, if_pos p1.2.2]
      omega
    have e0 := B5 0
    generalize hpp : A.2.1 b 2 = p at *
    have hbr : b = 1 ∨ b = 2 ∨ b = 3 := by have := hb.1; have := hb.2.1; omega
    have hpr : p = 0 ∨ p = 1 ∨ p = 2 ∨ p = 3 := by have := p1.1; have := p1.2.1; omega
    rcases hpr with rfl | rfl | rfl | rfl
    · rw [if_pos rfl] at e0
      rcases hbr with rfl | rfl | rfl
      · have x2 := to 2 (by decide) (by decide); have x3 := to 3 (by decide) (by decide); omega
      · have x1 := to 1 (by decide) (by decide); have x3 := to 3 (by decide) (by decide); omega
      · have x1 := to 1 (by decide) (by decide); have x2 := to 2 (by decide) (by decide); omega
    all_goals
      rw [if_neg (by decide)] at e0
      rcases hbr with rfl | rfl | rfl
      all_goals first
        | exact absurd rfl p2
        | (have x1 := to 1 (by decide) (by decide); omega)
        | (have x2 := to 2 (by decide) (by decide); omega)
        | (have x3 := to 3 (by decide) (by decide); omega)
  obtain ⟨t1, t2⟩ := zT_congr (A := zMg3 A b) (A' := zMrg st A b) (fun c j hj => kk.2.2.1 c j (by omega) (by omega) (by omega)) T3
  have n3 : (zMg3 A b).1 = A.1 := i6
  exact ⟨zW_mono w5 (by omega), t1, by rw [t2, kk.2.1, n3]; omega, by rw [kk.2.1, n3]; omega, by rw [kk.1, n3]; omega⟩
