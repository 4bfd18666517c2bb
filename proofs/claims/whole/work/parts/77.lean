theorem CS_out {um : Int} {U SV : Int → zA} {A : zA} {m m' : Int → Int → Int} {kd : Int → Nat × Int} {n S : Int} (hS : CS um U SV A m kd n S) (hf : ∀ c, c < 67 ∨ 92 < c → m' c = m c) (hk : ∀ c, 67 ≤ c → c ≤ 92 → kd c ≠ (9, 0)) : CS um U SV A m' kd n S ∧ m' 65 = m 65 ∧ znull m' = znull m := by
  obtain ⟨rfl, h2, h3, h4, h5, h6⟩ := hS
  obtain ⟨x0, x1, ⟨x63, x64, x640, x641, x65, x66⟩, x3, x33, xm33⟩ := id h2
  have lo : ∀ c, c < 67 ∨ 92 < c → m' c = m c := hf
  have en : ∀ e, kd e = (9, 0) → m' e = m e := fun e he => hf e (by
    apply Classical.byContradiction
    intro hh
    exact hk e (by omega) (by omega) he)
  refine ⟨⟨rfl, ⟨?_, ?_, ⟨x63, x64, ?_, ?_, x65, x66⟩, x3, x33, ?_⟩, ?_, ⟨?_, h4.2.1, h4.2.2.1, fun k k1 k2 => ?_⟩, fun i a b => ?_, ?_⟩, lo 65 (by decide), ?_⟩
  · rw [lo 0 (by decide)]; exact x0
  · rw [lo 1 (by decide)]; exact x1
  · rw [lo 64 (by decide)]; exact x640
  · rw [lo 64 (by decide)]; exact x641
  · exact MS_keep xm33 (fun c a b => lo c (by omega))
  · exact JS_keep h3 (fun c hc => lo c (by omega)) (lo 66 (by decide)) (lo 63 (by decide))
  · rw [lo 64 (by decide)]; exact h4.1
  · rw [lo 66 (by decide)]
    obtain ⟨v1, v2⟩ := h4.2.2.2 k k1 k2
    rcases h3.1 k k1 (by have := h4.2.2.1; omega) with h | h
    · exact absurd h v1
    · exact ⟨v1, RC_93 v2 h (fun c hc => lo c (by omega)) en⟩
  · rw [lo 63 (by decide)]
    intro hne
    rcases h3.2.1 i a b with h | h
    · exact absurd h hne
    · exact RC_93 (h5 i a b hne) h (fun c hc => lo c (by omega)) en
  · exact RC_keep h6 (fun c a b => lo c (by omega)) (fun e he => ⟨en e he, rfl⟩)
  · unfold znull
    rw [lo 66 (by decide), lo 63 (by decide)]
def CD (h p cn : Int) (sm : Int → Int) (en : Int → Int → Int) (m : Int → Int → Int) (kd : Int → Nat × Int) : Prop := KDl kd ∧ MDl m ∧ m 67 0 = h ∧ (h = 0 ∨ h = 1) ∧ m 67 2 = p ∧ m 67 3 = cn ∧ (0 ≤ cn ∧ cn ≤ 99) ∧ (h = 1 → ∀ j, 0 ≤ j → j ≤ 6 → m 68 j = sm j) ∧ ∀ i, 0 ≤ i → i < cn → kd (m 70 i) = (9, 0) ∧ ∀ j, 0 ≤ j → j < 4 → m (m 70 i) j = en i j
def zfy (m : Int → Int → Int) (kd : Int → Nat × Int) (m' : Int → Int → Int) (kd' : Int → Nat × Int) : Prop := ∀ c, (0 ≤ c ∧ c ≤ 2) ∨ c = 63 ∨ (71 ≤ c ∧ c ≤ 92) ∨ c = -1 ∨ kd c = (9, 0) ∨ (kd c).1 = 102 → m' c = m c ∧ kd' c = kd c
theorem CD_fx {h p cn : Int} {sm : Int → Int} {en : Int → Int → Int} {m m' : Int → Int → Int} {kd kd' : Int → Nat × Int} (hD : CD h p cn sm en m kd) (hf : zfx m kd m' kd') : CD h p cn sm en m' kd' := by
  obtain ⟨⟨k1, k2, k3, k4⟩, ⟨a1, a2, a3⟩, d0, d1, d2, d3, d4, d5, d6⟩ := hD
  obtain ⟨x1, y1⟩ := hf 67 (by omega)
  obtain ⟨x2, y2⟩ := hf 68 (by omega)
  obtain ⟨x3, y3⟩ := hf 69 (by omega)
  obtain ⟨x4, y4⟩ := hf 70 (by omega)
  refine ⟨⟨by rw [y1]; exact k1, by rw [y2]; exact k2, by rw [y3]; exact k3, by rw [y4]; exact k4⟩, ⟨by rw [x1]; exact a1, by rw [x1]; exact a2, by rw [x2]; exact a3⟩, by rw [x1]; exact d0, d1, by rw [x1]; exact d2, by rw [x1]; exact d3, d4, by rw [x2]; exact d5, fun i i1 i2 => ?_⟩
  obtain ⟨e1, e2⟩ := d6 i i1 i2
  obtain ⟨z1, z2⟩ := hf (m 70 i) (by simp [e1])
  rw [x4, z1, z2]
  exact ⟨e1, e2⟩
