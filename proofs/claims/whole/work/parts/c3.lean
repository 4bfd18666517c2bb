def zA0 : zA := (z00.1, (fun b j => if b = 0 ∧ j = 1 then 1 else z00.2.1 b j), z00.2.2)
theorem RC_00 {m m' : Int → Int → Int} {kd kd' : Int → Nat × Int} (hC : RC z00 m kd 3) (hm : ∀ x i, 3 ≤ x → x < 33 → (x ≠ 7 ∨ i ≠ 1) → m' x i = m x i) (h7 : m' 7 1 = 1) : RC zA0 m' kd' 3 := by
  obtain ⟨⟨f2, f3, f4, fV, fW, f0, f8, f9, f7⟩, e0, e1, eC, eB, eR, eD, eL, eE⟩ := id hC
  refine ⟨⟨?_, ?_, ?_, fun b b1 b2 => ?_, fun r b1 b2 => ?_, fun b b1 b2 => ?_, fun b b1 b2 => ?_, fun r b1 b2 => ?_, fun r b1 b2 => ?_⟩, ?_, ?_, fun i i1 i2 => ?_, fun b j b1 b2 j1 j2 => ?_, fun r j b1 b2 j1 j2 => ?_, fun r j b1 b2 t _ _ => ?_, fun r j b1 b2 t _ _ => ?_, fun b p b1 b2 t p1 p2 => ?_⟩
  · rw [hm _ _ (by omega) (by omega) (by omega)]; exact f2
  · rw [hm _ _ (by omega) (by omega) (by omega)]; exact f3
  · rw [hm _ _ (by omega) (by omega) (by omega)]; exact f4
  · rw [hm _ _ (by omega) (by omega) (by omega)]; exact fV b b1 b2
  · rw [hm _ _ (by omega) (by omega) (by omega)]; exact fW r b1 b2
  · rw [hm _ _ (by omega) (by omega) (by omega)]; exact f0 b b1 b2
  · rw [hm _ _ (by omega) (by omega) (by omega)]; exact f8 b b1 b2
  · rw [hm _ _ (by omega) (by omega) (by omega)]; exact f9 r b1 b2
  · rw [hm _ _ (by omega) (by omega) (by omega)]; exact f7 r b1 b2
  · rw [hm _ _ (by omega) (by omega) (by omega)]; exact e0
  · rw [hm _ _ (by omega) (by omega) (by omega)]; exact e1
  · rw [hm _ _ (by omega) (by omega) (by omega)]; exact eC i i1 i2
  · show _ = if b = 0 ∧ j = 1 then 1 else z00.2.1 b j
    by_cases q : b = 0 ∧ j = 1
    · rw [if_pos q, q.1, q.2]; exact h7
    · rw [if_neg q, hm _ _ (by omega) (by omega) (by omega)]; exact eB b j b1 b2 j1 j2
  · rw [hm _ _ (by omega) (by omega) (by omega)]; exact eR r j b1 b2 j1 j2
  · have t' : (0 : Int) = 1 := t
    exact absurd t' (by decide)
  · have t' : (0 : Int) = 1 := t
    exact absurd t' (by decide)
  · have e4 : zA0.2.1 b 4 = 0 := by
      show (if b = 0 ∧ (4 : Int) = 1 then (1 : Int) else z00.2.1 b 4) = 0
      rw [if_neg (by omega)]
      rfl
    have e5 : zA0.2.1 b 5 = 0 := by
      show (if b = 0 ∧ (5 : Int) = 1 then (1 : Int) else z00.2.1 b 5) = 0
      rw [if_neg (by omega)]
      rfl
    omega
def FX (m : Int → Int → Int) (kd : Int → Nat × Int) : Prop := (kd 0 = (14, 0) ∧ m 0 0 = 1 ∧ m 0 1 = 3 ∧ m 0 2 = 33 ∧ m 0 3 = 63 ∧ m 0 4 = 64 ∧ m 0 5 = 67 ∧ m 0 6 = 71 ∧ m 0 7 = 75) ∧ (kd 1 = (11, 0) ∧ m 1 0 = 2 ∧ kd 2 = (101, 7)) ∧ (∀ i, 0 ≤ i → i < 7 → m 2 i = zst0 i) ∧ (kd 63 = (123, 2) ∧ kd 64 = (5, 0) ∧ m 64 0 = 65 ∧ m 64 1 = 66 ∧ kd 65 = (101, 11) ∧ kd 66 = (123, 8)) ∧ (KS kd 3 ∧ KS kd 33 ∧ MS m 33) ∧ RC zA0 m kd 3 ∧ ((∀ i, m 63 i = -1) ∧ m 64 2 = 0 ∧ (∀ i, m 65 i = 0) ∧ ∀ i, m 66 i = -1) ∧ KDl kd ∧ MDl m ∧ (m 67 0 = 0 ∧ m 67 2 = 0 ∧ m 67 3 = 0) ∧ KSc kd ∧ (m 71 0 = 72 ∧ m 71 1 = 0 ∧ m 71 2 = 73 ∧ m 71 3 = 74 ∧ m 71 5 = 0 ∧ m 71 6 = -1) ∧ (kd 75 = (2, 0) ∧ m 75 0 = 76 ∧ m 75 1 = 0 ∧ m 75 3 = 0 ∧ kd 76 = (102, 16) ∧ ∀ i, m 76 i = 0) ∧ (∀ x, 77 ≤ x → kd x = (0, 0)) ∧ kd (-1) = (0, 0)
theorem c_init11 {m : Int → Int → Int} {kd : Int → Nat × Int} {c s : Nat} (x0 : kd 0 = (14, 0)) (hz : ∀ x, 1 ≤ x → kd x = (0, 0)) (hN : kd (-1) = (0, 0)) : ∃ m' kd', f_X11_init [(1, 0)] (m, kd, 1, c, s) = some (.inl none, (m', kd', 77, c + 76, s + 5726)) ∧ FX m' kd' := by
  obtain ⟨m2, e1, o2, a2, b2⟩ := c_init7 (m := nm m 1 z_X7) (kd := nk kd 1 (11, 0)) (n := 2) (c := c + 1) (s := s + 1) (y := 1) (nk_hit _ _ _) (by decide) (by decide)
  have ec2 : (((2 : Nat) : Int)) = 2 := rfl
  rw [ec2] at e1 o2 a2 b2
  generalize hk2 : nk (nk kd 1 (11, 0)) 2 (101, 7) = kd2 at e1
  have K2 : ∀ x, kd2 x = if x = 2 then (101, 7) else if x = 1 then (11, 0) else kd x := fun x => by rw [← hk2]; rfl
  obtain ⟨m5, kd5, e2, RC5, KS5, o5, k5⟩ := c_initS (m := nm (qa_up m2 0 0 1) 3 z_X9) (kd := nk kd2 3 (13, 0)) (n := 4) (c := c + 1 + 1 + 1) (s := s + 1 + 7 + 5) (S := 3) (by rw [nk_no _ _ (by decide), K2, if_neg (by decide), if_neg (by decide)]; exact hN) (by decide) (by decide) (nk_hit _ _ _) ⟨nm_hit _ _ _ _, nm_hit _ _ _ _⟩
  have K5 : ∀ x, x < 3 ∨ 33 ≤ x → kd5 x = kd2 x := fun x hx => by rw [k5 x (by omega), nk_no _ _ (by omega)]
  obtain ⟨m8, kd8, e3, RC8, KS8, o8, k8⟩ := c_initS (m := nm (qa_up m5 0 1 3) 33 z_X9) (kd := nk kd5 33 (13, 0)) (n := 34) (c := c + 1 + 1 + 1 + 29 + 1) (s := s + 1 + 7 + 5 + 2266 + 5) (S := 33) (by rw [nk_no _ _ (by decide)]; exact KS5.1) (by decide) (by decide) (nk_hit _ _ _) ⟨nm_hit _ _ _ _, nm_hit _ _ _ _⟩
  have K8 : ∀ x, x < 33 ∨ 63 ≤ x → kd8 x = kd5 x := fun x hx => by rw [k8 x (by omega), nk_no _ _ (by omega)]
  have e4 := c_init1 (m := nm (qa_up (nm (qa_up m8 0 2 33) 63 (fun _ => -1)) 0 3 63) 64 z_X1) (kd := nk (nk kd8 63 (123, 2)) 64 (5, 0)) (c := c + 1 + 1 + 1 + 29 + 1 + 29 + 1 + 1) (s := s + 1 + 7 + 5 + 2266 + 5 + 2266 + 2 + 3) (nk_hit _ _ _)
  generalize hk13 : nk (nk (nk (nk kd8 63 (123, 2)) 64 (5, 0)) 65 (101, 11)) 66 (123, 8) = kd13 at e4
  have K13 : ∀ x, kd13 x = if x = 66 then (123, 8) else if x = 65 then (101, 11) else if x = 64 then (5, 0) else if x = 63 then (123, 2) else kd8 x := fun x => by rw [← hk13]; rfl
  generalize hm13 : qa_up (nm (qa_up (nm (nm (qa_up (nm (qa_up m8 0 2 33) 63 (fun _ => -1)) 0 3 63) 64 z_X1) 65 (fun _ => 0)) 64 0 65) 66 (fun _ => -1)) 64 1 66 = m13 at e4
  have M13 : ∀ x i, m13 x i = if x = 64 ∧ i = 1 then 66 else if x = 66 then -1 else if x = 64 ∧ i = 0 then 65 else if x = 65 then 0 else if x = 64 then z_X1 i else if x = 0 ∧ i = 3 then 63 else if x = 63 then -1 else if x = 0 ∧ i = 2 then 33 else m8 x i := fun x i => by rw [← hm13]; rfl
  obtain ⟨m16, e5, o16, p1, p2, p3, p4⟩ := c_init4 (m := nm (qa_up m13 0 4 64) 67 z_X4) (kd := nk kd13 67 (8, 0)) (c := c + 1 + 1 + 1 + 29 + 1 + 29 + 1 + 1 + 1 + 1 + 1) (s := s + 1 + 7 + 5 + 2266 + 5 + 2266 + 2 + 3 + 11 + 8 + 5) (nk_hit _ _ _)
  generalize hk16 : nk (nk (nk (nk kd13 67 (8, 0)) 68 (7, 0)) 69 (101, 10)) 70 (119, 99) = kd16 at e5
  have K16 : ∀ x, kd16 x = if x = 70 then (119, 99) else if x = 69 then (101, 10) else if x = 68 then (7, 0) else if x = 67 then (8, 0) else kd13 x := fun x => by rw [← hk16]; rfl
  have e6 := c_init8 (m := nm (qa_up m16 0 5 67) 71 z_X8) (kd := nk kd16 71 (12, 0)) (c := c + 1 + 1 + 1 + 29 + 1 + 29 + 1 + 1 + 1 + 1 + 1 + 3 + 1) (s := s + 1 + 7 + 5 + 2266 + 5 + 2266 + 2 + 3 + 11 + 8 + 5 + 117 + 10) (nk_hit _ _ _)
  generalize hk19 : nk (nk (nk (nk kd16 71 (12, 0)) 72 (102, 700)) 73 (110, 60)) 74 (101, 240) = kd19 at e6
  have K19 : ∀ x, kd19 x = if x = 74 then (101, 240) else if x = 73 then (110, 60) else if x = 72 then (102, 700) else if x = 71 then (12, 0) else kd16 x := fun x => by rw [← hk19]; rfl
  generalize hm19 : qa_up (qa_up (nm (qa_up (nm (qa_up (nm (nm (qa_up m16 0 5 67) 71 z_X8) 72 (fun _ => 0)) 71 0 72) 73 (fun _ => -1)) 71 2 73) 74 (fun _ => 0)) 71 3 74) 71 6 (-1) = m19 at e6
  have M19 : ∀ x i, m19 x i = if x = 71 ∧ i = 6 then -1 else if x = 71 ∧ i = 3 then 74 else if x = 74 then 0 else if x = 71 ∧ i = 2 then 73 else if x = 73 then -1 else if x = 71 ∧ i = 0 then 72 else if x = 72 then 0 else if x = 71 then z_X8 i else if x = 0 ∧ i = 5 then 67 else m16 x i := fun x i => by rw [← hm19]; rfl
  have e7 := c_initP (m := nm (qa_up m19 0 6 71) 75 z_J4) (kd := nk kd19 75 (2, 0)) (c := c + 1 + 1 + 1 + 29 + 1 + 29 + 1 + 1 + 1 + 1 + 1 + 3 + 1 + 1 + 1 + 1 + 1) (s := s + 1 + 7 + 5 + 2266 + 5 + 2266 + 2 + 3 + 11 + 8 + 5 + 117 + 10 + 700 + 60 + 240 + 4) (nk_hit _ _ _)
  generalize hk22 : nk (nk kd19 75 (2, 0)) 76 (102, 16) = kd22 at e7
  have K22 : ∀ x, kd22 x = if x = 76 then (102, 16) else if x = 75 then (2, 0) else kd19 x := fun x => by rw [← hk22]; rfl
  generalize hm22 : qa_up (qa_up (nm (nm (qa_up m19 0 6 71) 75 z_J4) 76 (fun _ => 0)) 75 0 76) 75 1 0 = m22 at e7
  have M22 : ∀ x i, m22 x i = if x = 75 ∧ i = 1 then 0 else if x = 75 ∧ i = 0 then 76 else if x = 76 then 0 else if x = 75 then z_J4 i else if x = 0 ∧ i = 6 then 71 else m19 x i := fun x i => by rw [← hm22]; rfl
  have O16 : ∀ x i, x < 67 → (x ≠ 0 ∨ i ≠ 4) → m16 x i = m13 x i := fun x i hx hi => by rw [o16 x hx, nm_no _ _ _ (by omega), qa_up_no _ (by omega)]
  have Z : ∀ x i, 0 < x → x < 67 → m22 x i = m13 x i := fun x i h1 h2 => by
    rw [M22, if_neg (by omega), if_neg (by omega), if_neg (by omega), if_neg (by omega), if_neg (by omega), M19, if_neg (by omega), if_neg (by omega), if_neg (by omega), if_neg (by omega), if_neg (by omega), if_neg (by omega), if_neg (by omega), if_neg (by omega), if_neg (by omega)]
    exact O16 x i h2 (by omega)
  have Z8 : ∀ x i, 0 < x → x < 63 → m22 x i = m8 x i := fun x i h1 h2 => by
    rw [Z x i h1 (by omega), M13, if_neg (by omega), if_neg (by omega), if_neg (by omega), if_neg (by omega), if_neg (by omega), if_neg (by omega), if_neg (by omega), if_neg (by omega)]
  have Z5 : ∀ x i, 0 < x → x < 33 → m22 x i = m5 x i := fun x i h1 h2 => by
    rw [Z8 x i h1 (by omega), o8 x h2, nm_no _ _ _ (by omega), qa_up_no _ (by omega)]
  have Z2 : ∀ x i, 0 < x → x < 3 → m22 x i = m2 x i := fun x i h1 h2 => by
    rw [Z5 x i h1 (by omega), o5 x h2, nm_no _ _ _ (by omega), qa_up_no _ (by omega)]
  have KZ : ∀ x, x < 63 → kd22 x = kd8 x := fun x h => by
    rw [K22, if_neg (by omega), if_neg (by omega), K19, if_neg (by omega), if_neg (by omega), if_neg (by omega), if_neg (by omega), K16, if_neg (by omega), if_neg (by omega), if_neg (by omega), if_neg (by omega), K13, if_neg (by omega), if_neg (by omega), if_neg (by omega), if_neg (by omega)]
  have KZ5 : ∀ x, x < 33 → kd22 x = kd5 x := fun x h => by rw [KZ x (by omega), K8 x (by omega)]
  have KZ2 : ∀ x, x < 3 → kd22 x = kd2 x := fun x h => by rw [KZ5 x (by omega), K5 x (by omega)]
  have kd0 : ∀ x, x < 1 → kd2 x = kd x := fun x h => by rw [K2, if_neg (by omega), if_neg (by omega)]
  have x2 : kd2 0 = (14, 0) := by rw [kd0 0 (by decide)]; exact x0
  have x5 : kd5 0 = (14, 0) := by rw [K5 0 (by decide)]; exact x2
  have x8 : kd8 0 = (14, 0) := by rw [K8 0 (by decide)]; exact x5
  have x13 : kd13 0 = (14, 0) := by rw [K13]; exact x8
  have x16 : kd16 0 = (14, 0) := by rw [K16]; exact x13
  have x19 : kd19 0 = (14, 0) := by rw [K19]; exact x16
  have x22 : kd22 0 = (14, 0) := by rw [K22]; exact x19
  have m01 : m22 0 1 = 3 := by
    rw [M22, if_neg (by decide), if_neg (by decide), if_neg (by decide), if_neg (by decide), if_neg (by decide), M19, if_neg (by decide), if_neg (by decide), if_neg (by decide), if_neg (by decide), if_neg (by decide), if_neg (by decide), if_neg (by decide), if_neg (by decide), if_neg (by decide), O16 0 1 (by decide) (by decide), M13, if_neg (by decide), if_neg (by decide), if_neg (by decide), if_neg (by decide), if_neg (by decide), if_neg (by decide), if_neg (by decide), if_neg (by decide), o8 0 (by decide), nm_no _ _ _ (by decide), qa_up_hit]
  have KS3 : KS kd22 3 := KS_keep KS5 (fun x a b => KZ5 x (by omega)) (by rw [KZ5 (-1) (by decide)]; exact KS5.1)
  have h33 : qa_up m22 0 7 75 3 3 = 5 := by rw [qa_up_no _ (by decide), Z5 3 3 (by decide) (by decide)]; exact RC5.1.2.1
  have h50 : qa_up m22 0 7 75 5 0 = 7 := by rw [qa_up_no _ (by decide), Z5 5 0 (by decide) (by decide)]; exact RC5.1.2.2.2.1 0 (by decide) (by decide)
  have e8 := c_begin9 (m := qa_up m22 0 7 75) (kd := kd22) (w := (77, c + 1 + 1 + 1 + 29 + 1 + 29 + 1 + 1 + 1 + 1 + 1 + 3 + 1 + 1 + 1 + 1 + 1 + 1, s + 1 + 7 + 5 + 2266 + 5 + 2266 + 2 + 3 + 11 + 8 + 5 + 117 + 10 + 700 + 60 + 240 + 4 + 16)) KS3.2.1 KS3.2.2.2.1 (KS3.2.2.2.2.2.1 0 (by decide) (by decide)) h33 h50
  have EA := c_e11a (t := (0, 0)) x0 e1 x2 (by rw [K2]; rfl) e2 x5 KS5.2.1 e3 x8 KS8.2.1 e4 x13 (by rw [K13]; rfl) e5
  have EB := c_e11b x16 (by rw [K16]; rfl) e6 x19 (by rw [K19]; rfl) e7 x22 (by rw [K22]; rfl) m01 KS3.2.1 e8
  refine ⟨qa_up (qa_up m22 0 7 75) 7 1 1, kd22, ?_, ?_⟩
  · have E := EA.trans EB
    have a1 : c + 1 + 1 + 1 + 29 + 1 + 29 + 1 + 1 + 1 + 1 + 1 + 3 + 1 + 1 + 1 + 1 + 1 + 1 = c + 76 := by omega
    have a2 : s + 1 + 7 + 5 + 2266 + 5 + 2266 + 2 + 3 + 11 + 8 + 5 + 117 + 10 + 700 + 60 + 240 + 4 + 16 = s + 5726 := by omega
    rw [a1, a2] at E
    exact qa_fn_eq E (by simp)
  · have F : ∀ x i, x ≠ 0 → x ≠ 7 → qa_up (qa_up m22 0 7 75) 7 1 1 x i = m22 x i := fun x i a b => by rw [qa_up_no _ (by omega), qa_up_no _ (by omega)]
    have F0 : ∀ i, i ≠ 7 → qa_up (qa_up m22 0 7 75) 7 1 1 0 i = m22 0 i := fun i a => by rw [qa_up_no _ (by omega), qa_up_no _ (by omega)]
    have O8 := o8 0 (by decide)
    have O5 := o5 0 (by decide)
    have F7 : qa_up (qa_up m22 0 7 75) 7 1 1 0 7 = 75 := by rw [qa_up_no _ (by omega), qa_up_hit]
    have F71 : qa_up (qa_up m22 0 7 75) 7 1 1 7 1 = 1 := qa_up_hit _ _ _ _
    have F77 : ∀ x i, x ≠ 0 → (x ≠ 7 ∨ i ≠ 1) → qa_up (qa_up m22 0 7 75) 7 1 1 x i = m22 x i := fun x i a b => by rw [qa_up_no _ (by omega), qa_up_no _ (by omega)]
    generalize qa_up (qa_up m22 0 7 75) 7 1 1 = mm at F F0 F7 F71 F77
    refine ⟨⟨x22, ?_, ?_, ?_, ?_, ?_, ?_, ?_, F7⟩, ⟨?_, ?_, ?_⟩, fun i a b => ?_, ⟨?_, ?_, ?_, ?_, ?_, ?_⟩, ⟨KS3, ?_, ?_⟩, ?_, ⟨fun i => ?_, ?_, fun i => ?_, fun i => ?_⟩, ⟨?_, ?_, ?_, ?_⟩, ⟨?_, ?_, ?_⟩, ⟨?_, ?_, ?_⟩, ⟨?_, ?_, ?_, ?_⟩, ⟨?_, ?_, ?_, ?_, ?_, ?_⟩, ⟨?_, ?_, ?_, ?_, ?_, fun i => ?_⟩, fun x hx => ?_, ?_⟩
    · rw [F0 0 (by decide)]; simp [M22, M19, O16, M13, O8, O5, nm, qa_up]
    · rw [F0 1 (by decide)]; exact m01
    · rw [F0 2 (by decide)]; simp [M22, M19, O16, M13]
    · rw [F0 3 (by decide)]; simp [M22, M19, O16, M13]
    · rw [F0 4 (by decide)]; simp [M22, M19, o16 0 (by decide), nm, qa_up]
    · rw [F0 5 (by decide)]; simp [M22, M19]
    · rw [F0 6 (by decide)]; simp [M22]
    · rw [KZ2 1 (by decide), K2]; rfl
    · rw [F 1 0 (by decide) (by decide), Z2 1 0 (by decide) (by decide), a2]
    · rw [KZ2 2 (by decide), K2]; rfl
    · rw [F 2 i (by decide) (by decide), Z2 2 i (by decide) (by decide)]; exact b2 i a b
    · rw [K22, K19, K16, K13]; rfl
    · rw [K22, K19, K16, K13]; rfl
    · rw [F 64 0 (by decide) (by decide), Z 64 0 (by decide) (by decide), M13]; rfl
    · rw [F 64 1 (by decide) (by decide), Z 64 1 (by decide) (by decide), M13]; rfl
    · rw [K22, K19, K16, K13]; rfl
    · rw [K22, K19, K16, K13]; rfl
    · exact KS_keep KS8 (fun x a b => KZ x (by omega)) (by rw [KZ (-1) (by decide)]; exact KS8.1)
    · exact MS_keep RC8.1 (fun x a b => by
        funext i
        rw [F x i (by omega) (by omega), Z8 x i (by omega) (by omega)])
    · exact RC_00 RC5 (fun x i a b h => by rw [F77 x i (by omega) h, Z5 x i (by omega) b]) F71
    · rw [F 63 i (by decide) (by decide), Z 63 i (by decide) (by decide), M13]; simp
    · rw [F 64 2 (by decide) (by decide), Z 64 2 (by decide) (by decide), M13]; rfl
    · rw [F 65 i (by decide) (by decide), Z 65 i (by decide) (by decide), M13]; simp
    · rw [F 66 i (by decide) (by decide), Z 66 i (by decide) (by decide), M13]; simp
    · rw [K22, K19, K16]; rfl
    · rw [K22, K19, K16]; rfl
    · rw [K22, K19, K16]; rfl
    · rw [K22, K19, K16]; rfl
    · rw [F 67 1 (by decide) (by decide), M22, M19]; simp [p1]
    · rw [F 67 4 (by decide) (by decide), M22, M19]; simp [p2]
    · rw [F 68 7 (by decide) (by decide), M22, M19]; simp [p3]
    · rw [F 67 0 (by decide) (by decide), M22, M19]; simp [p4 0 (by decide) (by decide), nm, z_X4]
    · rw [F 67 2 (by decide) (by decide), M22, M19]; simp [p4 2 (by decide) (by decide), nm, z_X4]
    · rw [F 67 3 (by decide) (by decide), M22, M19]; simp [p4 3 (by decide) (by decide), nm, z_X4]
    · rw [K22, K19]; rfl
    · rw [K22, K19]; rfl
    · rw [K22, K19]; rfl
    · rw [K22, K19]; rfl
    · rw [F 71 0 (by decide) (by decide), M22, M19]; rfl
    · rw [F 71 1 (by decide) (by decide), M22, M19]; rfl
    · rw [F 71 2 (by decide) (by decide), M22, M19]; rfl
    · rw [F 71 3 (by decide) (by decide), M22, M19]; rfl
    · rw [F 71 5 (by decide) (by decide), M22, M19]; rfl
    · rw [F 71 6 (by decide) (by decide), M22, M19]; rfl
    · rw [K22]; rfl
    · rw [F 75 0 (by decide) (by decide), M22]; rfl
    · rw [F 75 1 (by decide) (by decide), M22]; rfl
    · rw [F 75 3 (by decide) (by decide), M22]; rfl
    · rw [K22]; rfl
    · rw [F 76 i (by decide) (by decide), M22]; simp
    · rw [K22, if_neg (by omega), if_neg (by omega), K19, if_neg (by omega), if_neg (by omega), if_neg (by omega), if_neg (by omega), K16, if_neg (by omega), if_neg (by omega), if_neg (by omega), if_neg (by omega), K13, if_neg (by omega), if_neg (by omega), if_neg (by omega), if_neg (by omega), K8 x (by omega), K5 x (by omega), K2, if_neg (by omega), if_neg (by omega)]
      exact hz x (by omega)
    · exact KS3.1
