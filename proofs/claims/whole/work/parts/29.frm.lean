def zfr (m m' : Int → Int → Int) (S : Int) : Prop := ∀ c, c < S ∨ S + 30 ≤ c → m' c = m c
theorem zfr.refl (m : Int → Int → Int) (S : Int) : zfr m m S := fun _ _ => rfl
theorem zfr.trans {m m' m'' : Int → Int → Int} {S : Int} (h : zfr m m' S) (k : zfr m' m'' S) : zfr m m'' S := fun c hc => (k c hc).trans (h c hc)
theorem KS.entry {kd : Int → Nat × Int} {S e : Int} (hK : KS kd S) (h : kd e = (9, 0)) : e < S ∨ S + 30 ≤ e := by
  obtain ⟨kN, kS, kC, kV, kW, kB, kE, kR, kD, kL⟩ := id hK
  rcases Classical.em (e < S ∨ S + 30 ≤ e) with h' | h'
  · exact h'
  · exfalso
    have h0 : e = S ∨ e = S + 1 ∨ e = S + 2 ∨ e = S + 3 ∨ (S + 4 ≤ e ∧ e < S + 12) ∨ (S + 12 ≤ e ∧ e < S + 30) := by omega
    rcases h0 with rfl | rfl | rfl | rfl | h0 | h0
    · rw [kS] at h; cases h
    · rw [kC] at h; cases h
    · rw [kV] at h; cases h
    · rw [kW] at h; cases h
    · have : e = S + 4 + 2 * ((e - S - 4) / 2) ∨ e = S + 5 + 2 * ((e - S - 4) / 2) := by omega
      rcases this with q | q <;> rw [q] at h
      · rw [kB _ (by omega) (by omega)] at h; cases h
      · rw [kE _ (by omega) (by omega)] at h; cases h
    · have : e = S + 12 + 3 * ((e - S - 12) / 3) ∨ e = S + 13 + 3 * ((e - S - 12) / 3) ∨ e = S + 14 + 3 * ((e - S - 12) / 3) := by omega
      rcases this with q | q | q <;> rw [q] at h
      · rw [kR _ (by omega) (by omega)] at h; cases h
      · rw [kD _ (by omega) (by omega)] at h; cases h
      · rw [kL _ (by omega) (by omega)] at h; cases h
theorem KS.ne1 {kd : Int → Nat × Int} {S e : Int} (hK : KS kd S) (h : kd e = (9, 0)) : e ≠ -1 := fun z => by
  rw [z, hK.1] at h; cases h
theorem RC_rd {A : zA} {m m' : Int → Int → Int} {kd : Int → Nat × Int} {S : Int} (hK : KS kd S) (hC : RC A m kd S) {k : Int} (k1 : 0 ≤ k) (k2 : k < 6) {R' : Int → Int → Int} (hf : ∀ c, c ≠ S + 12 + 3 * k → c ≠ S + 13 + 3 * k → c ≠ S + 14 + 3 * k → m' c = m c) (h9 : m' (S + 12 + 3 * k) 9 = S + 13 + 3 * k) (h7 : m' (S + 13 + 3 * k) 7 = S + 14 + 3 * k) (hR : ∀ r j, r ≠ k → R' r j = A.2.2.1 r j) (h0 : ∀ j, 0 ≤ j → j ≤ 8 → m' (S + 12 + 3 * k) j = R' k j)
    (hd : R' k 0 = 1 → ∀ j, 0 ≤ j → j ≤ 6 → m' (S + 13 + 3 * k) j = R' k (9 + j)) (hl : R' k 0 = 1 → ∀ j, 0 ≤ j → j < 10 → m' (S + 14 + 3 * k) j = R' k (16 + j)) : RC (A.1, A.2.1, R', A.2.2.2) m' kd S := by
  obtain ⟨⟨f2, f3, f4, fV, fW, f0, f8, f9, f7⟩, e0, e1, eC, eB, eR, eD, eL, eE⟩ := id hC
  obtain ⟨kN, kS, kC, kV, kW, kB, kE, kR, kD, kL⟩ := id hK
  refine ⟨⟨by rw [hf S (by omega) (by omega) (by omega)]; exact f2, by rw [hf S (by omega) (by omega) (by omega)]; exact f3, by rw [hf S (by omega) (by omega) (by omega)]; exact f4, fun b b1 b2 => ?_, fun r r1 r2 => ?_, fun b b1 b2 => ?_, fun b b1 b2 => ?_, fun r r1 r2 => ?_, fun r r1 r2 => ?_⟩, ?_, ?_, fun i i1 i2 => ?_, fun b j b1 b2 j1 j2 => ?_, fun r j r1 r2 j1 j2 => ?_, fun r j r1 r2 rt j1 j2 => ?_, fun r j r1 r2 rt j1 j2 => ?_, fun b p b1 b2 bt p1 p2 => ?_⟩
  · rw [hf _ (by omega) (by omega) (by omega)]; exact fV b b1 b2
  · rw [hf _ (by omega) (by omega) (by omega)]; exact fW r r1 r2
  · rw [hf _ (by omega) (by omega) (by omega)]; exact f0 b b1 b2
  · rw [hf _ (by omega) (by omega) (by omega)]; exact f8 b b1 b2
  · by_cases h : r = k
    · rw [h]; exact h9
    · rw [hf _ (by omega) (by omega) (by omega)]; exact f9 r r1 r2
  · by_cases h : r = k
    · rw [h]; exact h7
    · rw [hf _ (by omega) (by omega) (by omega)]; exact f7 r r1 r2
  · rw [hf _ (by omega) (by omega) (by omega)]; exact e0
  · rw [hf _ (by omega) (by omega) (by omega)]; exact e1
  · rw [hf _ (by omega) (by omega) (by omega)]; exact eC i i1 i2
  · rw [hf _ (by omega) (by omega) (by omega)]; exact eB b j b1 b2 j1 j2
  · by_cases h : r = k
    · rw [h]; exact h0 j j1 j2
    · rw [hf _ (by omega) (by omega) (by omega)]
      show _ = R' r j
      rw [hR _ _ h]; exact eR r j r1 r2 j1 j2
  · by_cases h : r = k
    · rw [h] at rt ⊢; exact hd rt j j1 j2
    · rw [hf _ (by omega) (by omega) (by omega)]
      show _ = R' r (9 + j)
      rw [hR _ _ h]; exact eD r j r1 r2 (by rw [← hR _ _ h]; exact rt) j1 j2
  · by_cases h : r = k
    · rw [h] at rt ⊢; exact hl rt j j1 j2
    · rw [hf _ (by omega) (by omega) (by omega)]
      show _ = R' r (16 + j)
      rw [hR _ _ h]; exact eL r j r1 r2 (by rw [← hR _ _ h]; exact rt) j1 j2
  · rw [hf _ (by omega) (by omega) (by omega)]
    have := eE b p b1 b2 bt p1 p2
    refine ⟨this.1, fun j j1 j2 => ?_⟩
    have h9 := hK.entry this.1
    rw [hf _ (by omega) (by omega) (by omega)]
    exact this.2 j j1 j2
theorem RC_br {A : zA} {m m' : Int → Int → Int} {kd : Int → Nat × Int} {S : Int} (hK : KS kd S) (hC : RC A m kd S) {k : Int} (k1 : 0 ≤ k) (k2 : k < 4) {B' : Int → Int → Int} (hf : ∀ c, c ≠ S + 4 + 2 * k → m' c = m c) (h0 : m' (S + 4 + 2 * k) 0 = k) (h8 : m' (S + 4 + 2 * k) 8 = S + 5 + 2 * k) (hB : ∀ b j, b ≠ k → B' b j = A.2.1 b j) (hb : ∀ j, 1 ≤ j → j ≤ 7 → m' (S + 4 + 2 * k) j = B' k j)
    (he : B' k 1 = 1 → A.2.1 k 1 = 1 ∧ A.2.1 k 4 ≤ B' k 4 ∧ B' k 5 ≤ A.2.1 k 5) : RC (A.1, B', A.2.2.1, A.2.2.2) m' kd S := by
  obtain ⟨⟨f2, f3, f4, fV, fW, f0, f8, f9, f7⟩, e0, e1, eC, eB, eR, eD, eL, eE⟩ := id hC
  obtain ⟨kN, kS, kC, kV, kW, kB, kE, kR, kD, kL⟩ := id hK
  refine ⟨⟨by rw [hf S (by omega)]; exact f2, by rw [hf S (by omega)]; exact f3, by rw [hf S (by omega)]; exact f4, fun b b1 b2 => ?_, fun r r1 r2 => ?_, fun b b1 b2 => ?_, fun b b1 b2 => ?_, fun r r1 r2 => ?_, fun r r1 r2 => ?_⟩, ?_, ?_, fun i i1 i2 => ?_, fun b j b1 b2 j1 j2 => ?_, fun r j r1 r2 j1 j2 => ?_, fun r j r1 r2 rt j1 j2 => ?_, fun r j r1 r2 rt j1 j2 => ?_, fun b p b1 b2 bt p1 p2 => ?_⟩
  · rw [hf _ (by omega)]; exact fV b b1 b2
  · rw [hf _ (by omega)]; exact fW r r1 r2
  · by_cases h : b = k
    · rw [h]; exact h0
    · rw [hf _ (by omega)]; exact f0 b b1 b2
  · by_cases h : b = k
    · rw [h]; exact h8
    · rw [hf _ (by omega)]; exact f8 b b1 b2
  · rw [hf _ (by omega)]; exact f9 r r1 r2
  · rw [hf _ (by omega)]; exact f7 r r1 r2
  · rw [hf _ (by omega)]; exact e0
  · rw [hf _ (by omega)]; exact e1
  · rw [hf _ (by omega)]; exact eC i i1 i2
  · by_cases h : b = k
    · rw [h]; exact hb j j1 j2
    · rw [hf _ (by omega)]
      show _ = B' b j
      rw [hB _ _ h]; exact eB b j b1 b2 j1 j2
  · rw [hf _ (by omega)]; exact eR r j r1 r2 j1 j2
  · rw [hf _ (by omega)]; exact eD r j r1 r2 rt j1 j2
  · rw [hf _ (by omega)]; exact eL r j r1 r2 rt j1 j2
  · rw [hf _ (by omega)]
    have key : A.2.1 b 1 = 1 ∧ A.2.1 b 4 ≤ p ∧ p < A.2.1 b 5 := by
      by_cases h : b = k
      · subst h
        have := he bt
        simp only at p1 p2
        exact ⟨this.1, by omega, by omega⟩
      · simp only [hB _ _ h] at bt p1 p2
        exact ⟨bt, p1, p2⟩
    have := eE b p b1 b2 key.1 key.2.1 key.2.2
    refine ⟨this.1, fun j j1 j2 => ?_⟩
    have h9 := hK.entry this.1
    rw [hf _ (by omega)]
    exact this.2 j j1 j2
theorem RC_num {A : zA} {m : Int → Int → Int} {kd : Int → Nat × Int} {S : Int} (hK : KS kd S) (hC : RC A m kd S) {s i k v : Int} (hk : (s = S ∧ i = k ∧ 0 ≤ k ∧ k ≤ 1) ∨ (s = S + 1 ∧ k = 2 + i ∧ 0 ≤ i ∧ i < 4)) : RC (fun j => if j = k then v else A.1 j, A.2) (qa_up m s i v) kd S := by
  obtain ⟨⟨f2, f3, f4, fV, fW, f0, f8, f9, f7⟩, e0, e1, eC, eB, eR, eD, eL, eE⟩ := id hC
  obtain ⟨kN, kS, kC, kV, kW, kB, kE, kR, kD, kL⟩ := id hK
  have hs : s = S ∨ s = S + 1 := by omega
  have no : ∀ c j, c ≠ s → qa_up m s i v c j = m c j := fun c j h => qa_up_no m (fun z => h z.1)
  refine ⟨⟨?_, ?_, ?_, fun b b1 b2 => ?_, fun r r1 r2 => ?_, fun b b1 b2 => ?_, fun b b1 b2 => ?_, fun r r1 r2 => ?_, fun r r1 r2 => ?_⟩, ?_, ?_, fun i i1 i2 => ?_, fun b j b1 b2 j1 j2 => ?_, fun r j r1 r2 j1 j2 => ?_, fun r j r1 r2 rt j1 j2 => ?_, fun r j r1 r2 rt j1 j2 => ?_, fun b p b1 b2 bt p1 p2 => ?_⟩
  · rw [qa_up_no m (by omega)]; exact f2
  · rw [qa_up_no m (by omega)]; exact f3
  · rw [qa_up_no m (by omega)]; exact f4
  · rw [no _ _ (by omega)]; exact fV b b1 b2
  · rw [no _ _ (by omega)]; exact fW r r1 r2
  · rw [no _ _ (by omega)]; exact f0 b b1 b2
  · rw [no _ _ (by omega)]; exact f8 b b1 b2
  · rw [no _ _ (by omega)]; exact f9 r r1 r2
  · rw [no _ _ (by omega)]; exact f7 r r1 r2
  · show _ = if (0 : Int) = k then v else A.1 0
    unfold qa_up
    rw [e0]
    rcases hk with ⟨rfl, rfl, h1, h2⟩ | ⟨rfl, rfl, h1, h2⟩ <;> grind
  · show _ = if (1 : Int) = k then v else A.1 1
    unfold qa_up
    rw [e1]
    rcases hk with ⟨rfl, rfl, h1, h2⟩ | ⟨rfl, rfl, h1, h2⟩ <;> grind
  · rename_i i'
    show _ = if (2 + i : Int) = k then v else A.1 (2 + i)
    unfold qa_up
    rw [eC i i1 i2]
    rcases hk with ⟨rfl, rfl, h1, h2⟩ | ⟨rfl, rfl, h1, h2⟩ <;> grind
  · rw [no _ _ (by omega)]; exact eB b j b1 b2 j1 j2
  · rw [no _ _ (by omega)]; exact eR r j r1 r2 j1 j2
  · rw [no _ _ (by omega)]; exact eD r j r1 r2 rt j1 j2
  · rw [no _ _ (by omega)]; exact eL r j r1 r2 rt j1 j2
  · rw [no _ _ (by omega)]
    have := eE b p b1 b2 bt p1 p2
    refine ⟨this.1, fun j j1 j2 => ?_⟩
    have h9 := hK.entry this.1
    rw [no _ _ (by omega)]
    exact this.2 j j1 j2
