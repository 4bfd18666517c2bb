def g00 : zG := (zA0, 0, (fun _ => zA0), (fun _ => 0), (fun _ => zA0), zst0, (fun _ => 0), (0, 0, 0, (fun _ => 0), (fun _ _ => 0)), ((fun _ => 0), 0, 0, -1), [])
def zMZ (M : Int → Int → Int) : Int → Int → Int := qa_up (qa_up (qa_up (qa_up (nm (qa_up (nm (qa_up (zwd M 62) 77 23 88) 89 (fun _ => 0)) 77 25 89) 90 (fun _ => 0)) 77 26 90) 79 6 1) 79 10 (-1)) 79 11 (-1)
theorem zMA_3 (m : Int → Int → Int) : zMA m = zwd (zMA m) 3 := by
  funext x i
  unfold zwd
  by_cases h : x = 88 ∧ 0 ≤ i ∧ i < 3
  · rw [if_pos h, h.1]
    have : i = 0 ∨ i = 1 ∨ i = 2 := by omega
    rcases this with rfl | rfl | rfl <;> rfl
  · rw [if_neg h]
theorem zMZ_o (m : Int → Int → Int) {x : Int} (h : x < 77) : zMZ (zMA m) x = m x := by
  funext i
  unfold zMZ zMA zwd qa_up nm
  simp only [show ∀ q : Int, x = 77 + q ↔ False ∨ x = 77 + q from fun q => by simp]
  have h77 : x ≠ 77 := by omega
  have h78 : x ≠ 78 := by omega
  have h79 : x ≠ 79 := by omega
  have h80 : x ≠ 80 := by omega
  have h81 : x ≠ 81 := by omega
  have h82 : x ≠ 82 := by omega
  have h83 : x ≠ 83 := by omega
  have h84 : x ≠ 84 := by omega
  have h85 : x ≠ 85 := by omega
  have h86 : x ≠ 86 := by omega
  have h87 : x ≠ 87 := by omega
  have h88 : x ≠ 88 := by omega
  have h89 : x ≠ 89 := by omega
  have h90 : x ≠ 90 := by omega
  simp [h77, h78, h79, h80, h81, h82, h83, h84, h85, h86, h87, h88, h89, h90]
theorem zMZ_79 (m : Int → Int → Int) (i : Int) : zMZ (zMA m) 79 i = if i = 11 then -1 else if i = 10 then -1 else if i = 6 then 1 else 0 := by
  unfold zMZ zMA zwd qa_up nm
  simp
theorem zMZ_77 (m : Int → Int → Int) (i : Int) (h : i = 0 ∨ i = 5 ∨ i = 9 ∨ i = 10 ∨ i = 11 ∨ i = 14 ∨ i = 16 ∨ i = 21 ∨ i = 27) : zMZ (zMA m) 77 i = m 77 i := by
  unfold zMZ zMA zwd qa_up nm
  rcases h with rfl | rfl | rfl | rfl | rfl | rfl | rfl | rfl | rfl <;> simp
theorem zMZ_78 (m : Int → Int → Int) (i : Int) (h : 0 ≤ i ∧ i < 7) : zMZ (zMA m) 78 i = zst0 i := by
  unfold zMZ zMA zwd qa_up nm zst0
  have : i = 0 ∨ i = 1 ∨ i = 2 ∨ i = 3 ∨ i = 4 ∨ i = 5 ∨ i = 6 := by omega
  rcases this with rfl | rfl | rfl | rfl | rfl | rfl | rfl <;> simp
theorem zMZ_00 (m : Int → Int → Int) (x i : Int) (h : x = 83 ∨ x = 84 ∨ x = 85) : zMZ (zMA m) x i = 0 := by
  unfold zMZ zMA zwd qa_up nm
  rcases h with rfl | rfl | rfl <;> simp
theorem zMZ_88 (m : Int → Int → Int) (i : Int) (h : 0 ≤ i ∧ i < 62) : zMZ (zMA m) 88 i = tWbs.getD i.toNat 0 := by
  unfold zMZ
  rw [qa_up_no _ (by omega), qa_up_no _ (by omega), qa_up_no _ (by omega), qa_up_no _ (by omega), nm_no _ _ _ (by omega), qa_up_no _ (by omega), nm_no _ _ _ (by omega), qa_up_no _ (by omega)]
  exact if_pos ⟨rfl, h⟩
theorem zMZ_R (m : Int → Int → Int) : RM (zMZ (zMA m)) ∧ zMZ (zMA m) 77 22 = -1 := by
  unfold zMZ zMA zwd qa_up nm RM
  simp
def zKZ (kd : Int → Nat × Int) : Int → Nat × Int := nk (nk (zKA kd) 89 (101, 305)) 90 (102, 200)
theorem zKZ_M {kd : Int → Nat × Int} (h : kd 77 = (15, 0)) : KM (zKZ kd) := by
  unfold zKZ zKA nk KM
  simp [h]
theorem zKZ_o {kd : Int → Nat × Int} {x : Int} (h : x ≤ 77 ∨ 91 ≤ x) : zKZ kd x = kd x := by
  unfold zKZ zKA
  rw [nk_no _ _ (by omega), nk_no _ _ (by omega), nk_no _ _ (by omega), nk_no _ _ (by omega), nk_no _ _ (by omega), nk_no _ _ (by omega), nk_no _ _ (by omega), nk_no _ _ (by omega), nk_no _ _ (by omega), nk_no _ _ (by omega), nk_no _ _ (by omega), nk_no _ _ (by omega), nk_no _ _ (by omega)]
theorem MI_00 {m : Int → Int → Int} {kd : Int → Nat × Int} (k77 : kd 77 = (15, 0)) (h77 : ∀ i, m 77 i = z_X12 i) : MI 0 g00 (zMZ (zMA m)) (zKZ kd) := by
  have R := zMZ_R m
  have v := fun i h => (zMZ_77 m i h).trans (h77 i)
  refine ⟨zKZ_M k77, R.1, ⟨?_, ?_, fun i i1 i2 => ?_, fun b b1 b2 => ?_, fun b b1 b2 t => ?_, fun r r1 r2 => ?_, fun r j r1 r2 t => ?_, fun r j r1 r2 t => ?_, fun b k b1 b2 t k1 k2 => ?_⟩, ⟨v 5 (by decide), Int.le_refl _, by decide, fun k a b => ?_⟩, fun i a b => ⟨Or.inl (zMZ_00 m 83 i (Or.inl rfl)), fun z => ?_⟩, fun i a b => zMZ_00 m 83 i (Or.inl rfl), fun i a b => zMZ_78 m i ⟨a, b⟩, fun i a b => zMZ_00 m 84 i (Or.inr (Or.inl rfl)), ⟨v 14 (by decide), fun z => ?_, fun i a b => ?_⟩, ⟨v 16 (by decide), ⟨Int.le_refl _, (show (0 : Int) ≤ 700 by decide)⟩, fun i => ⟨Int.le_refl _, (show (0 : Int) ≤ 255 by decide)⟩, fun i a b => ?_⟩, ⟨v 21 (by decide), R.2⟩, fun i a b => zMZ_88 m i ⟨a, b⟩, ⟨v 27 (by decide), fun i hi => absurd hi (by simp [g00])⟩, ?_⟩
  · rw [zMZ_79]; rfl
  · rw [zMZ_79]; rfl
  · rw [zMZ_79, if_neg (by omega), if_neg (by omega), if_neg (by omega)]; rfl
  · rw [zMZ_79]
    have : b = 0 ∨ b = 1 ∨ b = 2 ∨ b = 3 := by omega
    rcases this with rfl | rfl | rfl | rfl <;> rfl
  · have b0 : b = 0 := by
      have : b = 0 ∨ b = 1 ∨ b = 2 ∨ b = 3 := by omega
      rcases this with rfl | rfl | rfl | rfl
      · rfl
      · exact absurd t (by decide)
      · exact absurd t (by decide)
      · exact absurd t (by decide)
    subst b0
    simp only [zMZ_79]
    exact ⟨rfl, rfl, rfl, rfl, rfl, rfl⟩
  · rw [zMZ_79, if_neg (by omega), if_neg (by omega), if_neg (by omega)]; rfl
  · have t' : (0 : Int) = 1 := t
    exact absurd t' (by decide)
  · have t' : (0 : Int) = 1 := t
    exact absurd t' (by decide)
  · have b0 : b = 0 := by
      have : b = 0 ∨ b = 1 ∨ b = 2 ∨ b = 3 := by omega
      rcases this with rfl | rfl | rfl | rfl
      · rfl
      · exact absurd t (by decide)
      · exact absurd t (by decide)
      · exact absurd t (by decide)
    subst b0
    have k2' : k < (0 : Int) := k2
    omega
  · have b' : k < (0 : Int) := b
    omega
  · rw [zMZ_00 m 83 i (Or.inl rfl)] at z
    exact absurd z (by decide)
  · have z' : (0 : Int) = 1 := z
    exact absurd z' (by decide)
  · have b' : i < (0 : Int) := b
    omega
  · have b' : i < (0 : Int) := b
    omega
  · unfold zcb
    rw [v 9 (by decide), v 10 (by decide), v 11 (by decide)]
    refine ⟨by decide, by decide, by decide, fun r _ _ => ?_⟩
    rw [zMZ_00 m 85 r (Or.inr (Or.inr rfl))]
    decide
theorem m_init12 {m : Int → Int → Int} {kd : Int → Nat × Int} {c s : Nat} (k77 : kd 77 = (15, 0)) : f_X12_init [(1, 77)] (m, kd, 78, c, s) = some (.inl none, (zMZ (zMA m), zKZ kd, 91, c + 13, s + 177549)) := by
  have a0 := m_e12a (m := m) (c := c) (s := s) k77
  rw [zMA_3 m] at a0
  have q88 : zKA kd 88 = (102, 62) := by unfold zKA; exact nk_hit _ _ _
  have q77 : zKA kd 77 = (15, 0) := by
    have := zKZ_o (kd := kd) (x := 77) (Or.inl (by decide))
    unfold zKZ at this
    rw [nk_no _ _ (by decide), nk_no _ _ (by decide)] at this
    rw [this]; exact k77
  have q79 : zKA kd 79 = (101, 14622) := by simp [zKA, nk]
  have E := a0.trans ((m_e12_3 q88).trans ((m_e12_4 q88).trans ((m_e12_5 q88).trans ((m_e12_6 q88).trans ((m_e12_7 q88).trans ((m_e12_8 q88).trans ((m_e12_9 q88).trans ((m_e12_10 q77 q88).trans (m_e12z (by rw [nk_no _ _ (by decide)]; exact q77) (by rw [nk_no _ _ (by decide)]; exact q79) (by simp [qa_up, nm, zwd, zMA]))))))))))
  have e1 : c + 1 + 1 + 1 + 1 + 1 + 1 + 1 + 1 + 1 + 1 + 1 + 1 + 1 = c + 13 := by omega
  have e2 : s + 7 + 14622 + 14622 + 116976 + 29244 + 2 + 11 + 6 + 792 + 700 + 62 + 305 + 200 = s + 177549 := by omega
  rw [e1, e2] at E
  exact qa_fn_eq E (by simp)
