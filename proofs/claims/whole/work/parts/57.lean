def zle (A A' : zA) : Prop := zgs A ≤ zgs A' ∧ zgs A' + zlive A' = zgs A + zlive A ∧ (∀ r, 0 ≤ r → r < 6 → zd1 A r ≤ zd1 A' r ∧ zd1 A' r ≤ zd1 A r + (zgs A' - zgs A)) ∧ zbs A' = zbs A
theorem zle.refl (A : zA) : zle A A := ⟨Int.le_refl _, rfl, fun _ _ _ => ⟨Int.le_refl _, by omega⟩, rfl⟩
theorem zle.trans {A B C : zA} (h : zle A B) (k : zle B C) : zle A C := by
  obtain ⟨h1, h2, h3, h4⟩ := h
  obtain ⟨k1, k2, k3, k4⟩ := k
  refine ⟨by omega, by omega, fun r r1 r2 => ?_, by omega⟩
  have := h3 r r1 r2
  have := k3 r r1 r2
  omega
theorem zle_cut1 {M : Int} {A : zA} (hW : zW M A) {b c : Int} (hb : zBl A b) (hc : 0 ≤ c ∧ c ≤ 3) (hp : A.2.1 b 4 < A.2.1 b 5) : zle A (zCut1 A b c) := by
  obtain ⟨b1, b2, b3⟩ := id hb
  have q3 := (hW.2.2.2.2.2.2.1 b _ b1 b2 b3 (Int.le_refl _) hp).2.2.1
  have hg : zgs (zCut1 A b c) = zgs A + 1 := by
    unfold zgs
    simp only [zCut1_g]
    have : c = 0 ∨ c = 1 ∨ c = 2 ∨ c = 3 := by omega
    rcases this with rfl | rfl | rfl | rfl <;> simp <;> omega
  have hl : zlive (zCut1 A b c) = zlive A - 1 := by
    rw [zlive_4, zlive_4]
    simp only [zCut1_B]
    have : b = 0 ∨ b = 1 ∨ b = 2 ∨ b = 3 := by omega
    rcases this with rfl | rfl | rfl | rfl <;> simp [b3] <;> omega
  have hR : ∀ r j, j < 9 → j ≠ 2 → (zCut1 A b c).2.2.1 r j = A.2.2.1 r j := (zK0_cut1 hW hb hc hp).2.2.2.1
  refine ⟨by omega, by omega, fun r r1 r2 => ?_, ?_⟩
  · unfold zd1
    rw [hR r 0 (by decide) (by decide), zCut1_R]
    by_cases hl : zLow A r b
    · rw [if_pos hl]
      have : zOwe A b r 9 = A.2.2.1 r 9 + 1 := by simp [zOwe]
      rw [this]
      split <;> omega
    · rw [if_neg hl]
      omega
  · unfold zbs
    refine zsf_congr 6 0 (fun i _ _ => ?_)
    show (if (zCut1 A b c).2.2.1 i 0 = 1 then (zCut1 A b c).2.2.1 i 6 else 0) = _
    rw [hR i 0 (by decide) (by decide), hR i 6 (by decide) (by decide)]
theorem zle_cut {M : Int} (st : Int → Int) (b : Int) : ∀ (n : Nat) (A : zA), zW M A → zBl A b → zle A (zCut st b n A) := by
  intro n
  induction n with
  | zero => intro A h hb; exact zle.refl A
  | succ n ih =>
    intro A h hb
    have hz := zcause_le A st b
    simp only [zCut]
    split
    · exact zle.refl A
    · rename_i hc
      have h1 := zW_cut1 (c := zCause A st b) h hb (by omega) (hz.2.2 hc)
      have h2 := zK0_cut1 (c := zCause A st b) h hb (by omega) (hz.2.2 hc)
      exact (zle_cut1 h hb (by omega) (hz.2.2 hc)).trans (ih _ h1 (h2.bl.mpr hb))
theorem zle_cutB {M : Int} (st : Int → Int) {b : Int} {A : zA} (h : zW M A) (hb : zBl A b) : zle A (zCutB st b A) := zle_cut st b _ A h hb
theorem zle_cuts {M : Int} (st : Int → Int) {A : zA} (h : zW M A) : ∀ n : Nat, zle A (zCuts st n A) := by
  intro n
  induction n with
  | zero => exact zle.refl A
  | succ n ih =>
    simp only [zCuts]
    split
    · rename_i hb
      exact ih.trans (zle_cutB st (zW_cuts st h n).1 hb)
    · exact ih
theorem zsum_le {g g' : Int → Int} (h : ∀ i, 0 ≤ i → i < 6 → g i ≤ g' i ∧ g' i ≤ g i + 1) : zsum g 6 ≤ zsum g' 6 ∧ zsum g' 6 ≤ zsum g 6 + 6 := by
  have h0 := h 0 (by decide) (by decide)
  have h1 := h 1 (by decide) (by decide)
  have h2 := h 2 (by decide) (by decide)
  have h3 := h 3 (by decide) (by decide)
  have h4 := h 4 (by decide) (by decide)
  have h5 := h 5 (by decide) (by decide)
  simp [zsf]
  omega
def zlt (A A' : zA) (n : Int) : Prop := zgs A ≤ zgs A' ∧ zgs A' + zlive A' = zgs A + zlive A ∧ (∀ r, 0 ≤ r → r < 6 → zd1 A r ≤ zd1 A' r ∧ zd1 A' r ≤ zd1 A r + (zgs A' - zgs A)) ∧ zbs A ≤ zbs A' ∧ zbs A' ≤ zbs A + 6 * n
theorem zlt_tick {M : Int} (st : Int → Int) {A : zA} (hW : zW M A) (ht : A.1 0 < 1000000) : zlt A (zTick st A) 1 := by
  have h := zle_cuts st (zW_break hW ht).1 4
  obtain ⟨h1, h2, h3, h4⟩ := h
  have e1 : zgs (zBreak A) = zgs A := rfl
  have e2 : zlive (zBreak A) = zlive A := rfl
  have e3 : ∀ r, zd1 (zBreak A) r = zd1 A r := fun r => by
    unfold zd1
    rw [zBreak_low (by decide) (by decide), zBreak_low (by decide) (by decide)]
  have e4 : zbs A ≤ zbs (zBreak A) ∧ zbs (zBreak A) ≤ zbs A + 6 := by
    unfold zbs
    refine zsum_le (fun i _ _ => ?_)
    show (if A.2.2.1 i 0 = 1 then A.2.2.1 i 6 else 0) ≤ (if (zBreak A).2.2.1 i 0 = 1 then (zBreak A).2.2.1 i 6 else 0) ∧ (if (zBreak A).2.2.1 i 0 = 1 then (zBreak A).2.2.1 i 6 else 0) ≤ (if A.2.2.1 i 0 = 1 then A.2.2.1 i 6 else 0) + 1
    rw [zBreak_low (show (0 : Int) ≠ 4 by decide) (by decide)]
    simp only [zBreak]
    by_cases hc : zRl A i ∧ A.2.2.1 i 4 ≠ -1 ∧ A.2.2.1 i 4 < A.1 0 + 1
    · rw [if_pos hc]
      simp
      split <;> omega
    · rw [if_neg hc]
      omega
  unfold zTick
  refine ⟨by omega, by omega, fun r r1 r2 => ?_, by omega, by omega⟩
  have := h3 r r1 r2
  rw [e3] at this
  omega
theorem zlt_ticks {M : Int} (st : Int → Int) {A : zA} (hW : zW M A) : ∀ n : Nat, A.1 0 + n ≤ 1000000 → zlt A (zTicks st n A) n := by
  intro n
  induction n with
  | zero => intro _; exact ⟨Int.le_refl _, rfl, fun _ _ _ => ⟨Int.le_refl _, by simp [zTicks]⟩, Int.le_refl _, by simp [zTicks]⟩
  | succ n ih =>
    intro hn
    obtain ⟨a1, a2, a3⟩ := zW_ticks st hW n (by omega)
    obtain ⟨i1, i2, i3, i4, i5⟩ := ih (by omega)
    obtain ⟨t1, t2, t3, t4, t5⟩ := zlt_tick st a1 (by omega)
    refine ⟨by rw [zTicks]; omega, by rw [zTicks]; omega, fun r r1 r2 => ?_, by rw [zTicks]; omega, by rw [zTicks]; push_cast; omega⟩
    have := i3 r r1 r2
    have := t3 r r1 r2
    rw [zTicks]
    omega
theorem zW.lv {M : Int} {A : zA} (hW : zW M A) : 0 ≤ zlive A ∧ zlive A ≤ 2048 := by
  refine ⟨zlive_pos hW, ?_⟩
  rw [zlive_4]
  have h := fun b b1 b2 b3 => hW.bn (b := b) ⟨b1, b2, b3⟩
  have h0 := h 0 (by decide) (by decide)
  have h1 := h 1 (by decide) (by decide)
  have h2 := h 2 (by decide) (by decide)
  have h3 := h 3 (by decide) (by decide)
  have e : ∀ (c : Prop) [Decidable c] (x : Int), (c → x ≤ 512) → (if c then x else 0) ≤ 512 := fun c _ x h => by
    split
    · exact h (by assumption)
    · decide
  have k0 := e _ _ (fun h => by have := h0 h; omega : A.2.1 0 1 = 1 → A.2.1 0 5 - A.2.1 0 4 ≤ 512)
  have k1 := e _ _ (fun h => by have := h1 h; omega : A.2.1 1 1 = 1 → A.2.1 1 5 - A.2.1 1 4 ≤ 512)
  have k2 := e _ _ (fun h => by have := h2 h; omega : A.2.1 2 1 = 1 → A.2.1 2 5 - A.2.1 2 4 ≤ 512)
  have k3 := e _ _ (fun h => by have := h3 h; omega : A.2.1 3 1 = 1 → A.2.1 3 5 - A.2.1 3 4 ≤ 512)
  omega
theorem zsum_le2 {g g' : Int → Int} {X : Int} (h : ∀ i, 0 ≤ i → i < 6 → g i ≤ g' i ∧ g' i ≤ g i + X) : zsum g 6 ≤ zsum g' 6 ∧ zsum g' 6 ≤ zsum g 6 + 6 * X := by
  have h0 := h 0 (by decide) (by decide)
  have h1 := h 1 (by decide) (by decide)
  have h2 := h 2 (by decide) (by decide)
  have h3 := h 3 (by decide) (by decide)
  have h4 := h 4 (by decide) (by decide)
  have h5 := h 5 (by decide) (by decide)
  simp [zsf]
  omega
theorem zcb_lt {m m' : Int → Int → Int} {A A' : zA} {M M' X n : Int} (hX : zcb m X) (h : zcn m A m' A') (hW : zW M A) (hW' : zW M' A') (hl : zlt A A' n) (hn : 0 ≤ n ∧ n ≤ 200) : zcb m' (X + 13000) := by
  obtain ⟨x1, x2, x3, x4⟩ := hX
  obtain ⟨c1, c2, c3, c4⟩ := h
  obtain ⟨l1, l2, l3, l4, l5⟩ := hl
  have v := hW.lv
  have v' := hW'.lv
  have hd : zds A ≤ zds A' ∧ zds A' ≤ zds A + 6 * 2048 := zsum_le2 (g := zd1 A) (g' := zd1 A') (fun i i1 i2 => by have := l3 i i1 i2; omega)
  refine ⟨by omega, by omega, by omega, fun r r1 r2 => ?_⟩
  have := x4 r r1 r2
  have := c4 r r1 r2
  have := l3 r r1 r2
  omega
theorem zle.lt {A A' : zA} (h : zle A A') : zlt A A' 0 := ⟨h.1, h.2.1, h.2.2.1, by rw [h.2.2.2]; exact Int.le_refl _, by rw [h.2.2.2]; omega⟩
