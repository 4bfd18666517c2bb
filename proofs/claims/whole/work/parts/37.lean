theorem QR_rd {A : zA} {ρ ρ' : Int → Int} (hQ : QR A ρ) {k : Int} (k1 : 0 ≤ k) (k2 : k < 6) {R' : Int → Int → Int} (hf : ∀ i, i < 34 + 26 * k ∨ 34 + 26 * k + 26 ≤ i → ρ' i = ρ i) (hR : ∀ r j, r ≠ k → R' r j = A.2.2.1 r j) (h0 : ρ' (34 + 26 * k) = R' k 0) (h1 : R' k 0 = 1 → ∀ j, 1 ≤ j → j ≤ 11 → ρ' (34 + 26 * k + j) = R' k j) (h2 : R' k 0 = 1 → R' k 9 ≠ 0 → ∀ j, 12 ≤ j → j < 26 → ρ' (34 + 26 * k + j) = R' k j) : QR (A.1, A.2.1, R', A.2.2.2) ρ' := by
  obtain ⟨g0, g1, gC, gI, gB, gJ, gR, gD, gE⟩ := id hQ
  refine ⟨by rw [hf _ (by omega)]; exact g0, by rw [hf _ (by omega)]; exact g1, fun i i1 i2 => by rw [hf _ (by omega)]; exact gC i i1 i2, fun b b1 b2 => by rw [hf _ (by omega)]; exact gI b b1 b2, fun b b1 b2 b3 => ?_, fun r r1 r2 => ?_, fun r j r1 r2 r3 j1 j2 => ?_, fun r j r1 r2 r3 r9 j1 j2 => ?_, fun b p b1 b2 b3 p1 p2 => ?_⟩
  · rw [hf _ (by omega), hf _ (by omega), hf _ (by omega), hf _ (by omega), hf _ (by omega), hf _ (by omega)]
    exact gB b b1 b2 b3
  · by_cases h : r = k
    · rw [h]; exact h0
    · rw [hf _ (by omega)]; show _ = R' r 0; rw [hR _ _ h]; exact gJ r r1 r2
  · by_cases h : r = k
    · rw [h] at r3 ⊢; exact h1 r3 j j1 j2
    · rw [hf _ (by omega)]; show _ = R' r j; rw [hR _ _ h]; exact gR r j r1 r2 (by rw [← hR _ _ h]; exact r3) j1 j2
  · by_cases h : r = k
    · rw [h] at r3 r9 ⊢; exact h2 r3 r9 j j1 j2
    · rw [hf _ (by omega)]; show _ = R' r j; rw [hR _ _ h]; exact gD r j r1 r2 (by rw [← hR _ _ h]; exact r3) (by rw [← hR _ _ h]; exact r9) j1 j2
  · rw [hf _ (by omega), hf _ (by omega)]
    exact gE b p b1 b2 b3 p1 p2
theorem QR_br {A : zA} {ρ ρ' : Int → Int} (hQ : QR A ρ) {k : Int} (k1 : 0 ≤ k) (k2 : k < 4) {g' : Int → Int} {B' : Int → Int → Int} {E' : Int → Int → Int → Int} (h0 : ρ' 0 = g' 0) (h1 : ρ' 1 = g' 1) (hc : ∀ i, 0 ≤ i → i < 4 → ρ' (2 + i) = g' (2 + i)) (hf : ∀ i, 34 ≤ i → i < 190 → ρ' i = ρ i) (hfb : ∀ b i, 0 ≤ b → b < 4 → b ≠ k → 0 ≤ i → i < 7 → ρ' (6 + 7 * b + i) = ρ (6 + 7 * b + i)) (hfe : ∀ b i, 0 ≤ b → b < 4 → b ≠ k → 0 ≤ i → i < 1804 → ρ' (190 + (1804 * b + i)) = ρ (190 + (1804 * b + i)) ∧ ρ' (7406 + (1804 * b + i)) = ρ (7406 + (1804 * b + i)))
    (hB : ∀ b j, b ≠ k → B' b j = A.2.1 b j) (hE : ∀ b p j, b ≠ k → E' b p j = A.2.2.2 b p j) (hn : ∀ b, b ≠ k → 0 ≤ b → b < 4 → A.2.1 b 1 = 1 → A.2.1 b 5 - A.2.1 b 4 ≤ 1804) (own0 : ρ' (6 + 7 * k) = B' k 1) (own1 : B' k 1 = 1 → ρ' (6 + 7 * k + 1) = B' k 4 ∧ ρ' (6 + 7 * k + 2) = B' k 5 - B' k 4 ∧ ρ' (6 + 7 * k + 3) = B' k 6 ∧ ρ' (6 + 7 * k + 4) = B' k 2 ∧ ρ' (6 + 7 * k + 5) = B' k 3 ∧ ρ' (6 + 7 * k + 6) = B' k 7)
    (own2 : B' k 1 = 1 → ∀ i, 0 ≤ i → i < B' k 5 - B' k 4 → ρ' (190 + (1804 * k + i)) = E' k (B' k 4 + i) 0 ∧ ρ' (7406 + (1804 * k + i)) = (E' k (B' k 4 + i) 1 * 10 + E' k (B' k 4 + i) 2) * 200 + E' k (B' k 4 + i) 3 + 99) : QR (g', B', A.2.2.1, E') ρ' := by
  obtain ⟨g0, g1, gC, gI, gB, gJ, gR, gD, gE⟩ := id hQ
  refine ⟨h0, h1, hc, fun b b1 b2 => ?_, fun b b1 b2 b3 => ?_, fun r r1 r2 => ?_, fun r j r1 r2 r3 j1 j2 => ?_, fun r j r1 r2 r3 r9 j1 j2 => ?_, fun b p b1 b2 b3 p1 p2 => ?_⟩
  · by_cases h : b = k
    · rw [h]; exact own0
    · have := hfb b 0 b1 b2 h (by decide) (by decide)
      rw [Int.add_zero] at this
      rw [this]; show _ = B' b 1; rw [hB _ _ h]; exact gI b b1 b2
  · by_cases h : b = k
    · rw [h] at b3 ⊢; exact own1 b3
    · have e := fun i i1 i2 => hfb b i b1 b2 h i1 i2
      simp only at b3
      rw [hB _ _ h] at b3
      rw [e 1 (by decide) (by decide), e 2 (by decide) (by decide), e 3 (by decide) (by decide), e 4 (by decide) (by decide), e 5 (by decide) (by decide), e 6 (by decide) (by decide)]
      show _ = B' b 4 ∧ _ = B' b 5 - B' b 4 ∧ _ = B' b 6 ∧ _ = B' b 2 ∧ _ = B' b 3 ∧ _ = B' b 7
      rw [hB _ 4 h, hB _ 5 h, hB _ 6 h, hB _ 2 h, hB _ 3 h, hB _ 7 h]
      exact gB b b1 b2 b3
  · rw [hf _ (by omega) (by omega)]; exact gJ r r1 r2
  · rw [hf _ (by omega) (by omega)]; exact gR r j r1 r2 r3 j1 j2
  · rw [hf _ (by omega) (by omega)]; exact gD r j r1 r2 r3 r9 j1 j2
  · by_cases h : b = k
    · rw [h] at b3 p2 ⊢; exact own2 b3 p p1 p2
    · simp only at b3 p2
      rw [hB _ _ h] at b3
      rw [hB _ _ h, hB _ _ h] at p2
      have hn' := hn b h b1 b2 b3
      have e := hfe b p b1 b2 h p1 (by omega)
      rw [e.1, e.2]
      show _ = E' b (B' b 4 + p) 0 ∧ _ = (E' b (B' b 4 + p) 1 * 10 + E' b (B' b 4 + p) 2) * 200 + E' b (B' b 4 + p) 3 + 99
      rw [hB _ _ h, hE _ _ _ h, hE _ _ _ h, hE _ _ _ h, hE _ _ _ h]
      exact gE b p b1 b2 b3 p1 p2
def zbs (A : zA) : Int := zsum (fun r => if A.2.2.1 r 0 = 1 then A.2.2.1 r 6 else 0) 6
def zds (A : zA) : Int := zsum (fun r => if A.2.2.1 r 0 = 1 then A.2.2.1 r 9 else 0) 6
def zd1 (A : zA) (r : Int) : Int := if A.2.2.1 r 0 = 1 then A.2.2.1 r 9 else 0
def zcn (m : Int → Int → Int) (A : zA) (m' : Int → Int → Int) (A' : zA) : Prop := m' 77 9 - zgs A' = m 77 9 - zgs A ∧ m' 77 10 - zbs A' = m 77 10 - zbs A ∧ m' 77 11 - zds A' = m 77 11 - zds A ∧ ∀ r, 0 ≤ r → r < 6 → m' 85 r - zd1 A' r = m 85 r - zd1 A r
def zfm (m m' : Int → Int → Int) : Prop := (∀ c, c ≠ 77 → c ≠ 79 → c ≠ 85 → m' c = m c) ∧ ∀ i, i ≠ 9 → i ≠ 10 → i ≠ 11 → m' 77 i = m 77 i
theorem zcn.refl (m : Int → Int → Int) (A : zA) : zcn m A m A := ⟨rfl, rfl, rfl, fun _ _ _ => rfl⟩
theorem zcn.trans {m m' m'' : Int → Int → Int} {A A' A'' : zA} (h : zcn m A m' A') (k : zcn m' A' m'' A'') : zcn m A m'' A'' := ⟨k.1.trans h.1, k.2.1.trans h.2.1, k.2.2.1.trans h.2.2.1, fun r r1 r2 => (k.2.2.2 r r1 r2).trans (h.2.2.2 r r1 r2)⟩
theorem zfm.refl (m : Int → Int → Int) : zfm m m := ⟨fun _ _ _ _ => rfl, fun _ _ _ _ => rfl⟩
theorem zfm.trans {m m' m'' : Int → Int → Int} (h : zfm m m') (k : zfm m' m'') : zfm m m'' := ⟨fun c c1 c2 c3 => (k.1 c c1 c2 c3).trans (h.1 c c1 c2 c3), fun i i1 i2 i3 => (k.2 i i1 i2 i3).trans (h.2 i i1 i2 i3)⟩
theorem zfm_RM {m m' : Int → Int → Int} (h : zfm m m') (hR : RM m) : RM m' := by
  unfold RM at hR ⊢
  have e := fun i => h.2 i
  rw [e 1 (by decide) (by decide) (by decide), e 2 (by decide) (by decide) (by decide), e 3 (by decide) (by decide) (by decide), e 4 (by decide) (by decide) (by decide), e 6 (by decide) (by decide) (by decide), e 7 (by decide) (by decide) (by decide), e 8 (by decide) (by decide) (by decide), e 12 (by decide) (by decide) (by decide), e 13 (by decide) (by decide) (by decide), e 15 (by decide) (by decide) (by decide), e 23 (by decide) (by decide) (by decide), e 25 (by decide) (by decide) (by decide), e 26 (by decide) (by decide) (by decide)]
  exact hR
