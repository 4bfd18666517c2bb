/-- a reading is done, on the class's side -/
def cRead (um : Int) (U SV : Int → zA) (A : zA) (r it : Int) (m : Int → Int → Int) (kd : Int → Nat × Int) (n c s : Nat) (S : Int) (res : Option qR) : Prop := ∃ m' kd' n' c' s', res = some (.inl (some (0, zTk A r it + zHas A r)), (m', kd', n', c', s')) ∧ CS (zpu um) (zpU um U A) SV (zRead A r it) m' kd' (n' : Nat) S ∧ zfy m kd m' kd' ∧ (∀ i, m' 65 i = if i = 0 then m 65 0 + 1 else m 65 i) ∧ (c' : Int) + 30 * znull m' ≤ c + 30 * znull m + 2 ∧ (s' : Int) + 2271 * znull m' ≤ s + 2271 * znull m + 10 ∧ n ≤ n' ∧ c ≤ c' ∧ s ≤ s' ∧ CD (zHas A r) (A.2.2.1 r 2) (zTk A r it) (fun j => A.2.2.1 r (9 + j)) (fun i j => A.2.2.2 (A.2.2.1 r 1) (A.2.2.1 r 2 + i) j) m' kd'
theorem ca_read {m : Int → Int → Int} {kd : Int → Nat × Int} {n c s : Nat} {um S : Int} {U SV : Int → zA} {A : zA} {M : Int} (hS : CS um U SV A m kd n S) (hW : zW M A) (ha : ∀ i, 0 ≤ i → i ≤ 10 → 0 ≤ m 65 i ∧ m 65 i < 100000000) {h0 p0 c0 : Int} {sm : Int → Int} {en : Int → Int → Int} (hD : CD h0 p0 c0 sm en m kd) (hk9 : ∀ c, 67 ≤ c → c ≤ 92 → kd c ≠ (9, 0)) (h05 : m 0 5 = 67) (hM : M + 1 ≤ 500000) {r it : Int} (hr : zRl A r) (hi : 1 ≤ it ∧ it ≤ 99) : ((A.2.2.1 r 9 = 0 ∧ A.2.1 (A.2.2.1 r 1) 5 ≤ A.2.2.1 r 2) → cRef 10 m kd (n, c, s) (f_X11_read [(1, 0), (0, r), (0, it)] (m, kd, n, c, s))) ∧ (¬ (A.2.2.1 r 9 = 0 ∧ A.2.1 (A.2.2.1 r 1) 5 ≤ A.2.2.1 r 2) → cRead um U SV A r it m kd n c s S (f_X11_read [(1, 0), (0, r), (0, it)] (m, kd, n, c, s))) := by
  obtain ⟨hK, hC, hx, hn, h4, k64, h00, k1, x640, x65⟩ := hS.f
  have hS3 := hS.1
  have ne := c_needReader (w := (n, c, s)) hK hC hW hx hn r
  rw [if_pos hr] at ne
  have rg := c_needRange (m := m) (kd := kd) (w := (n, c, s)) it 1 99
  rw [if_pos hi] at rg
  obtain ⟨q1, q2, q3⟩ := id hr
  have hwr := hW.2.2.2.2.2.2.2.1 r q1 q2 q3
  unfold zWr at hwr
  have hwd := hW.2.2.2.2.2.2.2.2 r q1 q2 q3
  unfold zWd at hwd
  have htk := zTk_b hW hr hi
  have hh := zHas_01 A r
  obtain ⟨t1, t2, t3⟩ := hwr.1
  have ho := c_homeOf (w := (n, c, s)) hK hC q1 q2 ⟨t1, t2⟩
  have kS := hK.2.1
  have kr := hK.2.2.2.2.2.2.2.1 r q1 q2
  have kdd := hK.2.2.2.2.2.2.2.2.1 r q1 q2
  have kb := hK.2.2.2.2.2.1 _ t1 t2
  have g9 := hC.1.2.2.2.2.2.2.2.1 r q1 q2
  have d9 : m (S + 13 + 3 * r) 0 = A.2.2.1 r 9 := hC.2.2.2.2.2.2.1 r 0 q1 q2 q3 (by decide) (by decide)
  have u2 : m (S + 12 + 3 * r) 2 = A.2.2.1 r 2 := hC.2.2.2.2.2.1 r 2 q1 q2 (by decide) (by decide)
  have u5 : m (S + 4 + 2 * A.2.2.1 r 1) 5 = A.2.1 (A.2.2.1 r 1) 5 := hC.2.2.2.2.1 _ 5 t1 t2 (by decide) (by decide)
  have rf := c_refuse (w := (n, c, s)) (r := 10) k64 x640 x65 (by decide) (ha 10 (by decide) (by decide))
  refine ⟨fun h => ⟨by decide, by decide, ?_⟩, fun h => ?_⟩
  · unfold f_X11_read
    refine qa_fn_eq ?_ (by simp)
    simp (disch := omega) [ev_X11_read_0, ev_X11_read_1, B_X11_read_0, B_X11_read_1, x_const, x_iadd, x_isub, x_imul, x_idiv, x_irem, x_ineg, x_dup, x_dup_x1, x_dup2, x_pop, x_goto, x_ifeq, x_ifne, x_iflt, x_ifge, x_ifgt, x_ifle, x_cmpeq, x_cmpne, x_cmplt, x_cmpge, x_cmpgt, x_cmple, x_null, x_nonnull, x_acmpeq, x_acmpne, x_get, x_put, x_putz, x_ald, x_ast, x_bast, x_zast, x_aast, x_alen, x_obj, x_ret, x_retz, x_vret, x_max, x_min, x_copy, x_i2l, qg_none, qg_inl, qg_inr, qg_ite, xr1, xr0, xrE, xri, xl0, xl1, xl2, xl3, xl4, xl5, xl6, xl7, xl8, xl9, xl10, xs0, xs1, xs2, xs3, xs4, xs5, xs6, xs7, xs8, xs9, xs10, xi0, xi1, xi2, xi3, xi4, xi5, xi6, xi7, xi8, xi9, xi10, xc0, xc1, xc2, xc3, xc4, xc5, xc6, xc7, xv1, xv2, xv3, xv4, xv5, xv6, xv7, dT_le, dF_le, dT_lt, dF_lt, hx, hn, kS, h4, k64, ne, rg, ho, kr, kdd, kb, g9, d9, h.1, u2, u5, rf]
  · obtain ⟨m1, kd1, n1, c1, s1, i1, i2, i3, i4, i5, i6, i7, i8, i9⟩ := c_begS (c := c) (s := s) hS hW (ha 0 (by decide) (by decide))
    obtain ⟨hK1, hC1, hx1, hn1, h41, k641, h001, k11, -⟩ := i2.f
    have hD1 := CD_fx hD i3
    obtain ⟨KD1, MD1, -⟩ := id hD1
    obtain ⟨m2, j1, j2, j3, j4, j5, j6, j7, j8, j9, j10, j11, j12, j13, j14, j15⟩ := c_take (w := (n1, c1, s1)) hK1 hC1 hW hS3 KD1 MD1 hM hr hi
    have kr1 := hK1.2.2.2.2.2.2.2.1 r q1 q2
    have c5 : m2 (S + 12 + 3 * r) 5 = A.2.2.1 r 5 := by rw [j9 5 (by decide) (by decide) (by decide)]; exact hC1.2.2.2.2.2.1 r 5 q1 q2 (by decide) (by decide)
    have c4 : m2 (S + 12 + 3 * r) 4 = A.2.2.1 r 4 := by rw [j9 4 (by decide) (by decide) (by decide)]; exact hC1.2.2.2.2.2.1 r 4 q1 q2 (by decide) (by decide)
    have cb := c_comeBack (m := m2) (w := (n1, c1, s1)) (t := A.1 0) kr1 (by rw [c5]; omega)
    sorry
