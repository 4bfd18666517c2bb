def gP (g : zG) (l : List Int) : zG := (g.1, g.2.1, g.2.2.1, g.2.2.2.1, g.2.2.2.2.1, g.2.2.2.2.2.1, g.2.2.2.2.2.2.1, g.2.2.2.2.2.2.2.1, g.2.2.2.2.2.2.2.2.1, l)
theorem tpf_l {A : zA} {b : Int} (h : ∀ r, zIn A r b → (tpr A r).length ≤ 14) : ∀ (q : Nat) (k : Int), (tpf A b q k).length ≤ 14 * q := by
  intro q
  induction q with
  | zero => intro k; simp [tpf]
  | succ q ih =>
    intro k
    have := ih (k + 1)
    simp only [tpf]
    by_cases e : zIn A k b
    · rw [if_pos e, List.length_append]
      have := h k e
      omega
    · rw [if_neg e, List.nil_append]
      omega
theorem tpg_l {M : Int} {A : zA} (hW : zW M A) (hT : A.1 0 < 99900) {b : Int} (hb : zBl A b) : (tpg A b).length ≤ 142 := by
  have hwb := hW.2.2.2.2.2.1 b hb.1 hb.2.1 hb.2.2
  unfold zWb at hwb
  have a1 := tdg_1 (v := b) (by have := hb.2.1; omega)
  have a2 := tdg_3 (v := A.2.1 b 4) (by omega)
  have a3 := tdg_3 (v := A.2.1 b 5) (by omega)
  have := tpf_l (A := A) (b := b) (fun r hin => by
    have hwr := hW.2.2.2.2.2.2.2.1 r hin.1.1 hin.1.2.1 hin.1.2.2
    unfold zWr at hwr
    rw [hin.2] at hwr
    exact tpr_l (by have := hin.1.2.1; omega) (by omega) (fun _ => by omega) (by omega)) 6 0
  unfold tpg
  simp only [List.length_append, List.length_cons, List.length_nil]
  omega
theorem p_write {N : Int} {g : zG} (hG : GI N g) (hN : N ≤ 511) (b : Int) : PPub N g f_X11_write [(1, 0), (0, b)] f_X12_write [(1, 77), (0, b)] [(1, 1)] := by
  have e0 := zI_0 hG.1
  have e9 := hG.1.2.2.2.2
  have hT : g.1.1 0 < 99900 := by omega
  by_cases hb : zBl g.1 b
  · have hl := tpg_l hG.1.1 hT hb
    refine ⟨gP g (tpg g.1 b), N, 0, 0, ((tpg g.1 b).length : Int), ?_, Int.le_refl _, by unfold zpt; show 4 * N + g.2.2.2.2.2.2.2.2.1.2.1 ≤ _; omega, Or.inl ⟨rfl, rfl⟩, fun m kd n c s i => ?_, fun m kd w i => ?_⟩
    · obtain ⟨h1, h2, h3, h4, h5, h6, h7, h8, h9⟩ := hG
      exact ⟨h1, h2, h3, h4, h5, h6, h7, h8, hl⟩
    · obtain ⟨hK, hC, hx, hn, -⟩ := i.q
      have h07 := i.1.z.2.2.2.2.2
      obtain ⟨i1, i2, i3, i4, i5, i6, i7, i8, i9, V, cap, P, p1, p2⟩ := i
      obtain ⟨m', kd', n', c', s', e, ⟨V', cap', P', F⟩, q1, q2, q3⟩ := (ca_write (c := c) (s := s) hK hC hG.1.1 hT hx hn h07 P b).1 hb
      obtain ⟨f1, f2, f3, f4, f5, f6, f7, f8⟩ := id F
      have z' := P'.2.2.2.2.2.2.2.2.2.2.2.2
      obtain ⟨o1, o2, o3⟩ := CS_page i1 i9 f1 f2 q1 z'
      have z := i1.z
      have lo : ∀ x : Int, x < 93 → x ≠ 75 → x ≠ 76 → m' x = m x ∧ kd' x = kd x := fun x a b c => ⟨f2 x (by omega) b c (Or.inl a), f1 x (by omega)⟩
      have kl : ∀ x : Int, x < 93 → kd' x = kd x := fun x a => f1 x (by omega)
      have en : ∀ e, kd e = (9, 0) → m' e = m e ∧ kd' e = kd e := fun e he => by
        have hlt : e < n := by
          apply Classical.byContradiction
          intro hh
          rw [z.2.1 e (by omega)] at he
          cases he
        exact ⟨f2 e hlt (fun q => i9 e (by omega) (by omega) he) (fun q => i9 e (by omega) (by omega) he) (Or.inr (by rw [he]; decide)), f1 e hlt⟩
      refine ⟨m', kd', n', c', s', e, ⟨o1, ?_, CD_page i3 (fun x a b => lo x (by omega) (by omega) (by omega)) en, ?_, MSc_fr i5 (lo 71 (by decide) (by decide) (by decide)).1 (lo 72 (by decide) (by decide) (by decide)).1, by rw [(lo 71 (by decide) (by decide) (by decide)).1]; exact i6, by rw [o2]; exact i7, by rw [(lo 63 (by decide) (by decide) (by decide)).1]; exact i8, fun x a b => by rw [kl x (by omega)]; exact i9 x a b, V', cap', P', by rw [o3]; omega, by rw [o3]; omega⟩, fun x a b => lo x (by omega) (by omega) (by omega), q1, q2, q3⟩
      · obtain ⟨y1, y2, y3, y4⟩ := i2
        obtain ⟨a1, b1⟩ := lo 1 (by decide) (by decide) (by decide)
        obtain ⟨a2, b2⟩ := lo 2 (by decide) (by decide) (by decide)
        exact ⟨by rw [b1]; exact y1, by rw [a1]; exact y2, by rw [b2]; exact y3, by rw [a2]; exact y4⟩
      · obtain ⟨k1, k2, k3, k4⟩ := i4
        exact ⟨by rw [kl 71 (by decide)]; exact k1, by rw [kl 72 (by decide)]; exact k2, by rw [kl 73 (by decide)]; exact k3, by rw [kl 74 (by decide)]; exact k4⟩
    · obtain ⟨m', e, P, F⟩ := (ma_write (w := w) i.1 i.2.1 i.2.2.1 hG.1.1 hT b).1 hb
      refine ⟨m', e, ?_, by rw [F.2 0 (by decide), qa_up_hit], fun x hx => ?_⟩
      · have i0 := MI_thr i 0
        generalize qa_up m 77 0 0 = m0 at i0 F
        obtain ⟨i1, i2, i3, i4, i5, i6, i7, i8, i9, i10, i11, i12, i13, i14⟩ := i0
        have o := fun x (a : x ≠ 77 ∧ x ≠ 90) => F.1 x a.1 a.2
        refine ⟨i1, zfq_RM F i2, by rw [o 79 (by decide)]; exact i3, ?_, MV_fr i5 (o 82 (by decide)) (o 83 (by decide)), by rw [o 83 (by decide)]; exact i6, QS_fr i7 (o 78 (by decide)), by rw [o 84 (by decide)]; exact i8, QD_fr i9 (F.2 14 (by decide)) (o 86 (by decide)), MTx_fr i10 (F.2 16 (by decide)) (o 87 (by decide)), by rw [F.2 21 (by decide), F.2 22 (by decide)]; exact i11, fun i a b => by rw [o 88 (by decide)]; exact i12 i a b, P, ?_⟩
        · unfold MU at i4 ⊢
          rw [F.2 5 (by decide), o 81 (by decide)]
          exact i4
        · unfold zcb at i14 ⊢
          rw [F.2 9 (by decide), F.2 10 (by decide), F.2 11 (by decide), o 85 (by decide)]
          exact i14
      · rw [F.1 x (by omega) (by omega)]
        funext j
        exact qa_up_no _ (by omega)
  · exact p_thr (e := 1) (code := 1) hG hN (by decide) (by decide) (fun m kd n c s i => by
      obtain ⟨hK, hC, hx, hn, -⟩ := i.q
      have h07 := i.1.z.2.2.2.2.2
      obtain ⟨i1, i2, i3, i4, i5, i6, i7, i8, i9, V, cap, P, p1, p2⟩ := i
      exact (ca_write (c := c) (s := s) hK hC hG.1.1 hT hx hn h07 P b).2 hb) (fun m kd w i => (ma_write (w := w) i.1 i.2.1 i.2.2.1 hG.1.1 hT b).2 hb)
theorem p_ask {N : Int} {g : zG} (hG : GI N g) {f : List qV → qA → Option qR} {cargs : List qV} {h : List qV → qA → Option qR} {margs : List qV} {hs : List (Nat × Int)} {v : Int} (C : ∀ m kd n c s, CI N g m kd n c s → f cargs (m, kd, n, c, s) = some (.inl (some (0, v)), (m, kd, n, c, s))) (M : ∀ m kd w, MI N g m kd → h margs (m, kd, w) = some (.inl (some (0, v)), (qa_up m 77 0 0, kd, w))) : PPub N g f cargs h margs hs := by
  refine ⟨g, N, 0, 0, v, hG, Int.le_refl _, by omega, Or.inl ⟨rfl, rfl⟩, fun m kd n c s i => ⟨m, kd, n, c, s, C m kd n c s i, i, fun _ _ _ => ⟨rfl, rfl⟩, Nat.le_refl _, Nat.le_refl _, Nat.le_refl _⟩, fun m kd w i => ⟨_, M m kd w i, MI_thr i 0, qa_up_hit _ _ _ _, fun x hx => ?_⟩⟩
  funext j
  exact qa_up_no _ (by omega)
theorem p_output {N : Int} {g : zG} (hG : GI N g) (i : Int) : PPub N g f_X11_output [(1, 0), (0, i)] f_X12_output [(1, 77), (0, i)] [] := p_ask hG (fun m kd n c s h => by
  obtain ⟨V, cap, P, -⟩ := h.2.2.2.2.2.2.2.2.2
  exact cq_output P h.q.2.2.1 h.1.z.2.2.2.2.2 i) (fun m kd w h => mq_output h.1 h.2.1 h.2.2.2.2.2.2.2.2.2.2.2.2.1 (by have := hG.2.2.2.2.2.2.2.2; omega) i)
theorem p_errorCode {N : Int} {g : zG} (hG : GI N g) : PPub N g f_X11_errorCode [(1, 0)] f_X12_errorCode [(1, 77)] [] := p_ask (v := g.2.2.2.2.2.2.2.2.1.2.2.1) hG (fun m kd n c s h => by
  have e := (cq_errorCode (w := (n, c, s)) h.q.2.2.1 h.1.z.2.2.2.2.1 h.2.2.2.1.1).1
  rw [h.2.2.2.2.2.1.1] at e
  exact e) (fun m kd w h => by
  have e := (mq_errorCode (m := m) (w := w) h.1.1).1
  rw [h.2.2.2.2.2.2.2.2.2.2.1.1] at e
  exact e)
theorem p_errorPosition {N : Int} {g : zG} (hG : GI N g) : PPub N g f_X11_errorPosition [(1, 0)] f_X12_errorPosition [(1, 77)] [] := p_ask (v := g.2.2.2.2.2.2.2.2.1.2.2.2) hG (fun m kd n c s h => by
  have e := (cq_errorCode (w := (n, c, s)) h.q.2.2.1 h.1.z.2.2.2.2.1 h.2.2.2.1.1).2
  rw [h.2.2.2.2.2.1.2] at e
  exact e) (fun m kd w h => by
  have e := (mq_errorCode (m := m) (w := w) h.1.1).2
  rw [h.2.2.2.2.2.2.2.2.2.2.1.2] at e
  exact e)
theorem p_runScript {N : Int} {g : zG} (hG : GI N g) (hN : zpt N g ≤ 2044) : PPub N g f_X11_runScript [(1, 0)] f_X12_runScript [(1, 77)] [] := by
  obtain ⟨g', a, N', h1, h2, h3, h4, C, M⟩ := t_runScript hG hN
  refine ⟨g', N', 0, 0, a, h1, h2, by unfold zpt; rw [h4]; omega, Or.inl ⟨rfl, rfl⟩, C, M⟩
def PPubT (t : Nat) (N : Int) (g : zG) (f : List qV → qA → Option qR) (cargs : List qV) (h : List qV → qA → Option qR) (margs : List qV) : Prop := ∃ (e : Nat) (code va v : Int), ((e = 0 ∧ code = 0 ∧ v = va ∧ (t = 4 → N64 v)) ∨ (e = 1 ∧ code = 1)) ∧ (t = 3 → N32 v) ∧ CPub f cargs N (N + 1) g g t e va ∧ MPub h margs N (N + 1) g g t code v
theorem p_mean {N : Int} {g : zG} (hG : GI N g) (b : Int) : PPubT 4 N g f_X11_mean [(1, 0), (0, b)] f_X12_mean [(1, 77), (0, b)] := by
  have C := fun m kd n c s (i : CI N g m kd n c s) => cq_mean (w := (n, c, s)) i.q.1 i.q.2.1 hG.1.1 i.q.2.2.1 i.q.2.2.2.1 b
  have M := fun m kd w (i : MI N g m kd) => mq_mean (w := w) i.1 i.2.1 i.2.2.1 hG.1.1 b
  by_cases hb : zBl g.1 b
  · simp only [zA1_v hb] at C M
    refine ⟨0, 0, vMean g.1 b, vMean g.1 b, Or.inl ⟨rfl, rfl, rfl, fun _ => vMean_N hG.1.1 hb⟩, fun z => absurd z (by decide), fun m kd n c s i => ⟨m, kd, n, c, s, C m kd n c s i, CI_mono i (by omega), fun _ _ _ => ⟨rfl, rfl⟩, Nat.le_refl _, Nat.le_refl _, Nat.le_refl _⟩, fun m kd w i => ⟨_, M m kd w i, MI_mono (MI_thr i 0) (by omega), qa_up_hit _ _ _ _, fun x hx => ?_⟩⟩
    funext j
    exact qa_up_no _ (by omega)
  · simp only [zA1_1 hb] at C M
    refine ⟨1, 1, 0, 0, Or.inr ⟨rfl, rfl⟩, fun z => absurd z (by decide), fun m kd n c s i => ⟨m, kd, n, c + 1, s + 6, C m kd n c s i, CI_thr i, fun _ _ _ => ⟨rfl, rfl⟩, Nat.le_refl _, by omega, by omega⟩, fun m kd w i => ⟨_, M m kd w i, MI_mono (MI_thr i 1) (by omega), qa_up_hit _ _ _ _, fun x hx => ?_⟩⟩
    funext j
    exact qa_up_no _ (by omega)
