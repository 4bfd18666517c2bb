theorem RC_01 {m m' : Int → Int → Int} {kd kd' : Int → Nat × Int} (hC : RC zA0 m kd 3) (hm : ∀ x, 3 ≤ x → x < 33 → m' x = m x) : RC zA0 m' kd' 3 := by
  obtain ⟨⟨f2, f3, f4, fV, fW, f0, f8, f9, f7⟩, e0, e1, eC, eB, eR, eD, eL, eE⟩ := id hC
  refine ⟨⟨?_, ?_, ?_, fun b b1 b2 => ?_, fun r b1 b2 => ?_, fun b b1 b2 => ?_, fun b b1 b2 => ?_, fun r b1 b2 => ?_, fun r b1 b2 => ?_⟩, ?_, ?_, fun i i1 i2 => ?_, fun b j b1 b2 j1 j2 => ?_, fun r j b1 b2 j1 j2 => ?_, fun r j b1 b2 t _ _ => ?_, fun r j b1 b2 t _ _ => ?_, fun b p b1 b2 t p1 p2 => ?_⟩
  · rw [hm _ (by omega) (by omega)]; exact f2
  · rw [hm _ (by omega) (by omega)]; exact f3
  · rw [hm _ (by omega) (by omega)]; exact f4
  · rw [hm _ (by omega) (by omega)]; exact fV b b1 b2
  · rw [hm _ (by omega) (by omega)]; exact fW r b1 b2
  · rw [hm _ (by omega) (by omega)]; exact f0 b b1 b2
  · rw [hm _ (by omega) (by omega)]; exact f8 b b1 b2
  · rw [hm _ (by omega) (by omega)]; exact f9 r b1 b2
  · rw [hm _ (by omega) (by omega)]; exact f7 r b1 b2
  · rw [hm _ (by omega) (by omega)]; exact e0
  · rw [hm _ (by omega) (by omega)]; exact e1
  · rw [hm _ (by omega) (by omega)]; exact eC i i1 i2
  · rw [hm _ (by omega) (by omega)]; exact eB b j b1 b2 j1 j2
  · rw [hm _ (by omega) (by omega)]; exact eR r j b1 b2 j1 j2
  · have t' : (0 : Int) = 1 := t
    exact absurd t' (by decide)
  · have t' : (0 : Int) = 1 := t
    exact absurd t' (by decide)
  · have e4 : zA0.2.1 b 4 = 0 := by
      show (if b = 0 ∧ (4 : Int) = 1 then (1 : Int) else z00.2.1 b 4) = 0
      rw [if_neg (by omega)]
      rfl
    have e5 : zA0.2.1 b 5 = 0 := by
      show (if b = 0 ∧ (5 : Int) = 1 then (1 : Int) else z00.2.1 b 5) = 0
      rw [if_neg (by omega)]
      rfl
    omega
theorem zA0_b {b : Int} (h : b ≠ 0) : zA0.2.1 b 1 = 0 := by
  show (if b = 0 ∧ (1 : Int) = 1 then (1 : Int) else z00.2.1 b 1) = 0
  rw [if_neg (fun z => h z.1)]
  rfl
theorem zI_start : zI 0 zA0 := by
  refine ⟨⟨⟨by decide, by decide, by decide, by decide, by decide, by decide⟩, fun i _ _ => Int.le_refl _, by decide, fun b _ _ => ?_, fun r _ _ => Or.inl rfl, fun b b1 b2 t => ?_, fun b p b1 b2 t p1 p2 => ?_, fun r _ _ t => ?_, fun r _ _ t => ?_⟩, ⟨rfl, rfl, rfl, fun _ => 0, fun b b0 b4 t => ?_⟩, by decide, by decide, by decide⟩
  · by_cases h : b = 0
    · rw [h]; exact Or.inr rfl
    · exact Or.inl (zA0_b h)
  · by_cases h : b = 0
    · subst h
      exact ⟨by decide, by decide, by decide, by decide, by decide, by decide⟩
    · rw [zA0_b h] at t
      exact absurd t (by decide)
  · by_cases h : b = 0
    · subst h
      have p2' : p < 0 := p2
      have p1' : 0 ≤ p := p1
      omega
    · rw [zA0_b h] at t
      exact absurd t (by decide)
  · have t' : (0 : Int) = 1 := t
    exact absurd t' (by decide)
  · have t' : (0 : Int) = 1 := t
    exact absurd t' (by decide)
  · rw [zA0_b (by omega)] at t
    exact absurd t (by decide)
theorem GI_00 : GI 0 g00 := by
  refine ⟨zI_start, ⟨by decide, by decide⟩, fun k _ _ => zI_start, fun i _ _ => ⟨Or.inl rfl, fun _ => zI_start⟩, ?_, fun i _ _ => ⟨Int.le_refl _, Int.le_refl _⟩, ⟨Or.inl rfl, ⟨by decide, by decide⟩, by decide, by decide⟩, ⟨⟨by decide, by decide⟩, fun i => ⟨Int.le_refl _, (show (0 : Int) ≤ 255 by decide)⟩⟩, by decide⟩
  show zS zst0
  unfold zS
  decide
theorem CI_00 {m1 m : Int → Int → Int} {kd1 kd : Int → Nat × Int} {c s : Nat} (h : FX m1 kd1) (hm : ∀ x, x < 77 → m x = m1 x) (hk : ∀ x, x < 77 → kd x = kd1 x) (hz : ∀ x, 93 ≤ x → kd x = (0, 0)) (h9 : ∀ x, 77 ≤ x → x ≤ 92 → kd x ≠ (9, 0)) (hc : c ≤ 100) (hs : s ≤ 300000) : CI 0 g00 m kd 93 c s := by
  obtain ⟨⟨a0, a1, a2, a3, a4, a5, a6, a7, a8⟩, ⟨b1, b2, b3⟩, b4, ⟨d1, d2, d3, d4, d5, d6⟩, ⟨s3, s33, M33⟩, R, ⟨n63, n642, n65, n66⟩, kD, mD, ⟨t0, t2, t3⟩, kS, ⟨v0, v1, v2, v3, v5, v6⟩, ⟨p1, p2, p3, p4, p5, p6⟩, z77, zN⟩ := h
  obtain ⟨kD1, kD2, kD3, kD4⟩ := kD
  obtain ⟨mD1, mD2, mD3⟩ := mD
  obtain ⟨kS1, kS2, kS3, kS4⟩ := kS
  have S3 : KS kd 3 := KS_keep s3 (fun x a b => hk x (by omega)) (by rw [hk _ (by omega)]; exact zN)
  have S33 : KS kd 33 := KS_keep s33 (fun x a b => hk x (by omega)) (by rw [hk _ (by omega)]; exact zN)
  have nn := zsf_01 (g := fun i => if m 66 i = -1 then 1 else 0) (fun i => by split <;> omega) 8 0
  have nn2 := zsf_01 (g := fun i => if m 63 i = -1 then 1 else 0) (fun i => by split <;> omega) 2 0
  have hzn : znull m ≤ 10 := by
    show zsf _ 0 8 + zsf _ 0 2 ≤ 10
    omega
  refine ⟨⟨rfl, ⟨⟨?_, ?_, ?_, ?_, ?_, ?_, ?_, ?_, ?_⟩, ⟨?_, ?_, ?_⟩, ⟨?_, ?_, ?_, ?_, ?_, ?_⟩, S3, S33, ?_⟩, ⟨fun i _ _ => Or.inl ?_, fun i _ _ => Or.inl ?_, fun i j _ _ _ _ _ q => absurd ?_ q, fun i j _ _ _ _ q => absurd ?_ q, fun q => absurd ?_ q, by decide, hz⟩, ⟨?_, Int.le_refl _, by decide, fun k a b => ?_⟩, fun i _ _ q => absurd ?_ q, RC_01 R (fun x a b => hm x (by omega))⟩, ⟨?_, ?_, ?_, fun i a b => ?_⟩, ⟨⟨?_, ?_, ?_, ?_⟩, ⟨?_, ?_, ?_⟩, ?_, Or.inl rfl, ?_, ?_, ⟨Int.le_refl _, by decide⟩, fun z => ?_, fun i a b => ?_⟩, ⟨?_, ?_, ?_, ?_⟩, ⟨?_, ?_, ?_, ?_, ⟨Int.le_refl _, by decide⟩, fun i => ⟨Int.le_refl _, (show (0 : Int) ≤ 255 by decide)⟩, fun i a b => ?_⟩, ⟨?_, ?_⟩, fun i _ _ => ?_, fun i _ _ => ?_, fun x xa xb => ?_, 76, 16, ⟨?_, ?_, ?_, ?_, ?_, Or.inl rfl, Or.inl rfl, by decide, fun i hi => absurd hi (by simp [g00]), fun i _ _ => ?_, fun x hx => absurd hx (by simp [g00]), by decide, hz⟩, ?_, ?_⟩
  · rw [hk _ (by decide)]; exact a0
  · rw [hm _ (by decide)]; exact a1
  · rw [hm _ (by decide)]; exact a2
  · rw [hm _ (by decide)]; exact a3
  · rw [hm _ (by decide)]; exact a4
  · rw [hm _ (by decide)]; exact a5
  · rw [hm _ (by decide)]; exact a6
  · rw [hm _ (by decide)]; exact a7
  · rw [hm _ (by decide)]; exact a8
  · rw [hk _ (by decide)]; exact b1
  · rw [hm _ (by decide)]; exact b2
  · rw [hk _ (by decide)]; exact b3
  · rw [hk _ (by decide)]; exact d1
  · rw [hk _ (by decide)]; exact d2
  · rw [hm _ (by decide)]; exact d3
  · rw [hm _ (by decide)]; exact d4
  · rw [hk _ (by decide)]; exact d5
  · rw [hk _ (by decide)]; exact d6
  · exact MS_keep M33 (fun x a b => hm x (by omega))
  · rw [hm _ (by decide)]; exact n66 i
  · rw [hm _ (by decide)]; exact n63 i
  · rw [hm _ (by decide)]; exact n66 i
  · rw [hm 66 (by decide)]; exact n66 i
  · rw [hm _ (by decide)]; exact n63 0
  · rw [hm _ (by decide)]; exact n642
  · have : k < (0 : Int) := b
    omega
  · rw [hm _ (by decide)]; exact n63 i
  · rw [hk _ (by decide)]; exact b1
  · rw [hm _ (by decide)]; exact b2
  · rw [hk _ (by decide)]; exact b3
  · rw [hm _ (by decide)]; exact b4 i a b
  · rw [hk _ (by decide)]; exact kD1
  · rw [hk _ (by decide)]; exact kD2
  · rw [hk _ (by decide)]; exact kD3
  · rw [hk _ (by decide)]; exact kD4
  · rw [hm _ (by decide)]; exact mD1
  · rw [hm _ (by decide)]; exact mD2
  · rw [hm _ (by decide)]; exact mD3
  · rw [hm _ (by decide)]; exact t0
  · rw [hm _ (by decide)]; exact t2
  · rw [hm _ (by decide)]; exact t3
  · have : (0 : Int) = 1 := z
    exact absurd this (by decide)
  · have : i < (0 : Int) := b
    omega
  · rw [hk _ (by decide)]; exact kS1
  · rw [hk _ (by decide)]; exact kS2
  · rw [hk _ (by decide)]; exact kS3
  · rw [hk _ (by decide)]; exact kS4
  · rw [hm _ (by decide)]; exact v0
  · rw [hm _ (by decide)]; exact v1
  · rw [hm _ (by decide)]; exact v2
  · rw [hm _ (by decide)]; exact v3
  · have : i < (0 : Int) := b
    omega
  · rw [hm _ (by decide)]; exact v5
  · rw [hm _ (by decide)]; exact v6
  · rw [hm _ (by decide)]; exact n65 i
  · rw [hm _ (by decide), n63 i]
    exact ⟨fun z => absurd rfl z, fun z => absurd (show (0 : Int) = 1 from z) (by decide)⟩
  · by_cases e : 77 ≤ x
    · exact h9 x e xb
    · have : x = 67 ∨ x = 68 ∨ x = 69 ∨ x = 70 ∨ x = 71 ∨ x = 72 ∨ x = 73 ∨ x = 74 ∨ x = 75 ∨ x = 76 := by omega
      rw [hk x (by omega)]
      rcases this with rfl | rfl | rfl | rfl | rfl | rfl | rfl | rfl | rfl | rfl
      · rw [kD1]; decide
      · rw [kD2]; decide
      · rw [kD3]; decide
      · rw [kD4]; decide
      · rw [kS1]; decide
      · rw [kS2]; decide
      · rw [kS3]; decide
      · rw [kS4]; decide
      · rw [p1]; decide
      · rw [p5]; decide
  · rw [hk _ (by decide)]; exact p1
  · rw [hm _ (by decide)]; exact p2
  · rw [hm _ (by decide)]; exact p3
  · rw [hm _ (by decide)]; exact p4
  · rw [hk _ (by decide)]; exact p5
  · rw [hm _ (by decide), p6 i]; decide
  · have : zpg 16 = 3 := rfl
    omega
  · have : zpg 16 = 3 := rfl
    omega
