def zfz (m : Int → Int → Int) (kd : Int → Nat × Int) (m' : Int → Int → Int) (kd' : Int → Nat × Int) : Prop := ∀ c, (0 ≤ c ∧ c ≤ 2) ∨ (67 ≤ c ∧ c ≤ 92) ∨ c = -1 ∨ kd c = (9, 0) ∨ (kd c).1 = 102 → m' c = m c ∧ kd' c = kd c
theorem zfx.z {m m' : Int → Int → Int} {kd kd' : Int → Nat × Int} (h : zfx m kd m' kd') : zfz m kd m' kd' := fun c hc => h c (by
  rcases hc with h | h | h | h | h
  · exact Or.inl h
  · exact Or.inr (Or.inr (Or.inl h))
  · exact Or.inr (Or.inr (Or.inr (Or.inl h)))
  · exact Or.inr (Or.inr (Or.inr (Or.inr (Or.inl h))))
  · exact Or.inr (Or.inr (Or.inr (Or.inr (Or.inr h)))))
theorem zfz.trans {m m1 m2 : Int → Int → Int} {kd k1 k2 : Int → Nat × Int} (h1 : zfz m kd m1 k1) (h2 : zfz m1 k1 m2 k2) : zfz m kd m2 k2 := fun x hx => by
  obtain ⟨a1, a2⟩ := h1 x hx
  obtain ⟨b1, b2⟩ := h2 x (by rw [a2]; exact hx)
  exact ⟨b1.trans a1, b2.trans a2⟩
theorem c_saveCopy {m : Int → Int → Int} {kd : Int → Nat × Int} {w : Nat × Nat × Nat} {n um S : Int} {U SV : Int → zA} {A : zA} {M : Int} (hS : CS um U SV A m kd n S) (hW : zW M A) {i u : Int} (hi : 0 ≤ i ∧ i ≤ 1) (hu : m 63 i = u) (hne : u ≠ -1) : ∃ m', f_X9_copyFrom [(1, u), (1, S)] (m, kd, w) = some (.inl none, (m', kd, w)) ∧ CS um U (zSv SV i A) A m' kd n S ∧ zfx m kd m' kd ∧ m' 65 = m 65 ∧ znull m' = znull m ∧ (kd u).1 = 13 := by
  obtain ⟨rfl, h2, hJ, hU, h5, h6⟩ := hS
  obtain ⟨x0, x1, ⟨x63, x64, x640, x641, x65, x66⟩, x3, x33, xm33⟩ := id h2
  obtain ⟨u1, u2, u3, u4⟩ := id hU
  obtain ⟨j1, j2, j3, j4, j5, j6, j7⟩ := id hJ
  have hO : JO m kd n u := by
    rcases j2 i (by omega) (by omega) with h | h
    · exact absurd (hu.symm.trans h) hne
    · rw [hu] at h; exact h
  obtain ⟨o1, o2, o3, o4⟩ := id hO
  obtain ⟨m1, i1, i2, i3⟩ := c_copyS (w := w) o3 o4 x3 h6 hW (KS_apart o3 x3 (by omega))
  have lo : ∀ c, c < 93 → m1 c = m c := fun c hc => i3 c (by omega)
  have en : ∀ e, kd e = (9, 0) → m1 e = m e := fun e he => i3 e (o3.entry he)
  have far : ∀ S', KS kd S' → S' ≠ u → ∀ c, S' ≤ c → c < S' + 30 → m1 c = m c := fun S' hS' hn c c1 c2 => i3 c (by have := KS_apart o3 hS' (Ne.symm hn); unfold zapart at this; omega)
  have en' : ∀ e, kd e = (9, 0) → m1 e = m e ∧ kd e = kd e := fun e he => ⟨en e he, rfl⟩
  have keepJO : ∀ S', JO m kd n S' → JO m1 kd n S' := fun S' h => by
    refine ⟨h.1, h.2.1, h.2.2.1, ?_⟩
    by_cases e : S' = u
    · rw [e]; exact i2.1
    · exact MS_keep h.2.2.2 (far S' h.2.2.1 e)
  have e66 : m1 66 = m 66 := lo 66 (by decide)
  have e63 : m1 63 = m 63 := lo 63 (by decide)
  refine ⟨m1, i1, ⟨rfl, ⟨?_, ?_, ⟨x63, x64, ?_, ?_, x65, x66⟩, x3, x33, ?_⟩, ⟨fun i a b => ?_, fun i a b => ?_, ?_, ?_, ?_, j6, j7⟩, ⟨?_, u2, u3, fun k k1 k2 => ?_⟩, fun k a b hk => ?_, ?_⟩, ?_, lo 65 (by decide), ?_, ?_⟩
  · rw [lo 0 (by decide)]; exact x0
  · rw [lo 1 (by decide)]; exact x1
  · rw [lo 64 (by decide)]; exact x640
  · rw [lo 64 (by decide)]; exact x641
  · exact MS_keep xm33 (fun c a b => lo c (by omega))
  · rw [e66]; exact (j1 i a b).imp id (keepJO _)
  · rw [e63]; exact (j2 i a b).imp id (keepJO _)
  · rw [e66]; exact j3
  · rw [e66, e63]; exact j4
  · rw [e63]; exact j5
  · rw [lo 64 (by decide)]; exact u1
  · rw [e66]
    obtain ⟨v1, v2⟩ := u4 k k1 k2
    refine ⟨v1, ?_⟩
    have hk : JO m kd n (m 66 k) := by
      rcases j1 k k1 (by omega) with h | h
      · exact absurd h v1
      · exact h
    exact RC_keep v2 (far _ hk.2.2.1 (fun z => j4 k i k1 (by omega) (by omega) (by omega) v1 (z.trans hu.symm))) en'
  · rw [e63] at hk ⊢
    show RC (if k = i then A else SV k) _ _ _
    by_cases e : k = i
    · rw [if_pos e, e, hu]; exact i2
    · rw [if_neg e]
      have hk' : JO m kd n (m 63 k) := by
        rcases j2 k a b with h | h
        · exact absurd h hk
        · exact h
      refine RC_keep (h5 k a b hk) (far _ hk'.2.2.1 (fun z => ?_)) en'
      have h01 : (k = 0 ∧ i = 1) ∨ (k = 1 ∧ i = 0) := by omega
      rcases h01 with ⟨rfl, rfl⟩ | ⟨rfl, rfl⟩
      · exact j5 hk (z.trans hu.symm)
      · exact j5 (by rw [hu]; exact hne) (hu.trans z.symm)
  · exact RC_keep h6 (fun c a b => lo c (by omega)) en'
  · intro c hc
    refine ⟨?_, rfl⟩
    rcases hc with h | h | h | h | h | h
    · exact lo c (by omega)
    · exact lo c (by omega)
    · exact lo c (by omega)
    · exact lo c (by omega)
    · exact en c h
    · exact i3 c (KS_102 o3 h)
  · unfold znull
    rw [e66, e63]
  · rw [o3.2.1]
