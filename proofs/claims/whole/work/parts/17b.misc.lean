section QS
variable {p : Program} {l : Launch} {e : Env} {R : Room} {s : State} {m : MethodId} {args : Array Value} {below : List Frame} {meth : Method} {c : Code} {Q : State → Prop} {cc : ByteArray} {nL : Nat} {own : String} {D : va_G} {A0 : Nat → Prop} {Ai : Int → Nat} {xb : Bool} {n0 c0 s0 : Nat} {r : qR} {pcs : Nat → Nat}
theorem ok_switch (C : qa_C xb Ai p s m args meth c cc nL own A0 R c0 s0 r) {pc len : Nat} {dflt lo hi : Int} {offs : Array Int} {Ts : List Nat} {dT : Nat} (hn : (Ts.length : Int) = hi - lo + 1) (hdt : (pc : Int) + dflt = (pcs dT : Int)) (hT : ∀ i : Fin Ts.length, ∃ off, offs[i.val]? = some off ∧ (pc : Int) + off = (pcs (Ts.getD i.val dT) : Int)) (d : decode cc pc = .ok (.tableswitch dflt lo hi offs, len)) : qa_OK p l e R s m args below meth c Q D A0 Ai n0 nL c0 s0 r pcs pc (q_switch lo Ts dT) := by
  refine qa_gen (pc' := pc) (k := fun _ _ _ => none) qa_dead (fun ls st a o ho => ?_)
  unfold q_switch at ho
  split at ho
  · rename_i x rs
    split at ho
    · rename_i h
      refine ⟨ls, rs, _, Or.inr ⟨_, (Option.some.inj ho).symm, rfl⟩, fun N g1 g2 => ⟨g1, qa_okl_tl g2⟩, fun _ N g1 g2 A H locs kc ks LS hL kk => ?_⟩
      have kk := kk LS hL
      have hr := qa_rgi (qa_okl_hd g2) h
      rw [List.map_cons, qa_eta h, qa_v0]
      by_cases h1 : x.2 < lo
      · rw [if_pos h1] at kk
        exact lv_tableOut C.1 C.2.1 d (Or.inl (by rw [q_i32 hr]; exact h1)) hdt kk
      · rw [if_neg h1] at kk
        by_cases h2 : hi < x.2
        · rw [List.getD_eq_getElem?_getD, List.getElem?_eq_none (by omega), Option.getD_none] at kk
          exact lv_tableOut C.1 C.2.1 d (Or.inr (by rw [q_i32 hr]; exact h2)) hdt kk
        · obtain ⟨off, e1, e2⟩ := hT ⟨(x.2 - lo).toNat, by omega⟩
          exact lv_tableIn C.1 C.2.1 d (by rw [q_i32 hr]; exact h1) (by rw [q_i32 hr]; exact h2) (by rw [q_i32 hr]; exact e1) e2 kk
    · cases ho
  · cases ho
theorem ok_lookup (C : qa_C xb Ai p s m args meth c cc nL own A0 R c0 s0 r) {pc len : Nat} {dflt : Int} {ps : Array (Int × Int)} {ks : List (Int × Nat)} {dT : Nat} (hp : (ps.toList.zip (ps.toList.drop 1)).all (fun (a, next) => a.1 < next.1) = true) (hk : ∀ x : Int, (pc : Int) + Op.lookupswitch.offset ps.toList dflt x = (pcs (((ks.find? (fun q => q.1 == x)).map (fun q => q.2)).getD dT) : Int)) (d : decode cc pc = .ok (.lookupswitch dflt ps, len)) : qa_OK p l e R s m args below meth c Q D A0 Ai n0 nL c0 s0 r pcs pc (q_lookup ks dT) := by
  refine qa_gen (pc' := pc) (k := fun _ _ _ => none) qa_dead (fun ls st a o ho => ?_)
  unfold q_lookup at ho
  split at ho
  · rename_i x rs
    split at ho
    · rename_i h
      refine ⟨ls, rs, _, Or.inr ⟨_, (Option.some.inj ho).symm, rfl⟩, fun N g1 g2 => ⟨g1, qa_okl_tl g2⟩, fun _ N g1 g2 A H locs kc ks' LS hL kk => ?_⟩
      have kk := kk LS hL
      have hr := qa_rgi (qa_okl_hd g2) h
      rw [List.map_cons, qa_eta h, qa_v0]
      exact lv_lookup C.1 C.2.1 d hp rfl (by rw [q_i32 hr]; exact hk x.2) kk
    · cases ho
  · cases ho
theorem qa_inj {a : qA} {A : Int → Nat} {cA : Int → ClassId} (hD : va_D A0 (qa_ws A cA a)) {x y : Int} (hx : -1 ≤ x) (hy : -1 ≤ y) (hxn : x < (a.2.2.1 : Int)) (hyn : y < (a.2.2.1 : Int)) : qa_rf A x = qa_rf A y ↔ x = y := by
  constructor
  · intro h
    unfold qa_rf at h
    by_cases h1 : x = -1
    · rw [if_pos h1] at h
      by_cases h2 : y = -1
      · omega
      · rw [if_neg h2] at h; cases h
    · rw [if_neg h1] at h
      by_cases h2 : y = -1
      · rw [if_pos h2] at h; cases h
      · rw [if_neg h2] at h
        have h3 := Option.some.inj h
        have := hD.1 _ _ _ _ (qa_ws_get (k := x) (by omega) hxn) (qa_ws_get (k := y) (by omega) hyn) h3
        omega
  · intro h; rw [h]
theorem qa_acmp {pc T : Nat} {k f : qI} (K : qa_OK p l e R s m args below meth c Q D A0 Ai n0 nL c0 s0 r pcs (pc + 3) k) (P : Int → Int → Prop)
    (hf : ∀ ls st a o, f ls st a = some o → ∃ x y rs, st = (1, y) :: (1, x) :: rs ∧ -1 ≤ x ∧ -1 ≤ y ∧ ((P x y ∧ o = .inl (T, ls, rs, a)) ∨ (¬ P x y ∧ k ls rs a = some o)))
    (hw : ∀ (A : Int → Nat) (x y : Int), (qa_rf A x = qa_rf A y ↔ x = y) → ∀ H locs kc ks LS rest, (P x y → W p l e R s m args below meth c H locs kc ks Q (F0 m (pcs T) LS rest)) → (¬ P x y → W p l e R s m args below meth c H locs kc ks Q (F0 m (pc + 3) LS rest)) → W p l e R s m args below meth c H locs kc ks Q (F0 m pc LS (va_rf (qa_rf A y) :: va_rf (qa_rf A x) :: rest))) : qa_OK p l e R s m args below meth c Q D A0 Ai n0 nL c0 s0 r pcs pc f := by
  intro ls st a o ho
  obtain ⟨x, y, rs, rfl, hx, hy, h⟩ := hf ls st a o ho
  refine ⟨?_, fun g => ?_⟩
  · rcases h with ⟨-, rfl⟩ | ⟨-, h2⟩
    · exact ⟨Nat.le_refl _, Nat.le_refl _, Nat.le_refl _⟩
    · exact (K _ _ _ _ h2).1
  · intro A H locs kc ks LS hW hwf hls hst hn hA hS hL hc hs
    have hD := hW
    obtain ⟨cA, tys, -, hD, -, -⟩ := hD
    refine hw A x y (qa_inj hD hx hy ((qa_okl_hd (qa_okl_tl hst)).2 rfl) ((qa_okl_hd hst).2 rfl)) H locs kc ks LS _ (fun hp => ?_) (fun hp => ?_)
    · rcases h with ⟨h1, rfl⟩ | ⟨h1, h2⟩
      · exact g.2.2 A H locs kc ks LS hW hwf hls (qa_okl_tl (qa_okl_tl hst)) hn hA hS hL hc hs
      · exact absurd hp h1
    · rcases h with ⟨h1, rfl⟩ | ⟨h1, h2⟩
      · exact absurd h1 hp
      · exact (K _ _ _ _ h2).2 g A H locs kc ks LS hW hwf hls (qa_okl_tl (qa_okl_tl hst)) hn hA hS hL hc hs
theorem ok_acmpeq (C : qa_C xb Ai p s m args meth c cc nL own A0 R c0 s0 r) {pc T : Nat} {off : Int} {k : qI} (d : decode cc pc = .ok (.if_acmp .eq off, 3)) (ht : (pc : Int) + off = (pcs T : Int)) (K : qa_OK p l e R s m args below meth c Q D A0 Ai n0 nL c0 s0 r pcs (pc + 3) k) : qa_OK p l e R s m args below meth c Q D A0 Ai n0 nL c0 s0 r pcs pc (q_acmpeq T k) := by
  refine qa_acmp (T := T) K (fun x y => x = y) (fun ls st a o ho => ?_) (fun A x y hxy H locs kc ks LS rest k1 k2 => lv_acmp_eq C.1 C.2.1 d ht (fun z => k1 (hxy.mp z)) (fun z => k2 (fun w => z (hxy.mpr w))))
  unfold q_acmpeq at ho
  split at ho
  · rename_i y x rs
    split at ho
    · rename_i h
      refine ⟨x.2, y.2, rs, by rw [← qa_eta h.1, ← qa_eta h.2.1], h.2.2.1, h.2.2.2, ?_⟩
      split at ho
      · rename_i h2; exact Or.inl ⟨h2, (Option.some.inj ho).symm⟩
      · rename_i h2; exact Or.inr ⟨h2, ho⟩
    · cases ho
  · cases ho
theorem ok_acmpne (C : qa_C xb Ai p s m args meth c cc nL own A0 R c0 s0 r) {pc T : Nat} {off : Int} {k : qI} (d : decode cc pc = .ok (.if_acmp .ne off, 3)) (ht : (pc : Int) + off = (pcs T : Int)) (K : qa_OK p l e R s m args below meth c Q D A0 Ai n0 nL c0 s0 r pcs (pc + 3) k) : qa_OK p l e R s m args below meth c Q D A0 Ai n0 nL c0 s0 r pcs pc (q_acmpne T k) := by
  refine qa_acmp (T := T) K (fun x y => ¬ x = y) (fun ls st a o ho => ?_) (fun A x y hxy H locs kc ks LS rest k1 k2 => lv_acmp_ne C.1 C.2.1 d ht (fun z => k1 (fun w => z (hxy.mpr w))) (fun z => k2 (not_not_intro (hxy.mp z))))
  unfold q_acmpne at ho
  split at ho
  · rename_i y x rs
    split at ho
    · rename_i h
      refine ⟨x.2, y.2, rs, by rw [← qa_eta h.1, ← qa_eta h.2.1], h.2.2.1, h.2.2.2, ?_⟩
      split at ho
      · rename_i h2; exact Or.inr ⟨not_not_intro h2, ho⟩
      · rename_i h2; exact Or.inl ⟨h2, (Option.some.inj ho).symm⟩
    · cases ho
  · cases ho
theorem ok_obj (C : qa_C xb Ai p s m args meth c cc nL own A0 R c0 s0 r) {pc index : Nat} {k : qI} (hw : ∀ w ∈ [Cond.methodLink own index Lib.objectInit, .instanceMethod Lib.objectInit, .code Lib.objectInit ⟨#[0xb1]⟩ 1 none], w ∈ qa_tb) (hRf : 1 ≤ R.frames) (hRl : 20 ≤ R.locals) (d : decode cc pc = .ok (.invokespecial index, 3)) (K : qa_OK p l e R s m args below meth c Q D A0 Ai n0 nL c0 s0 r pcs (pc + 3) k) : qa_OK p l e R s m args below meth c Q D A0 Ai n0 nL c0 s0 r pcs pc (q_obj k) := by
  intro ls st a o ho
  unfold q_obj at ho
  split at ho
  · rename_i v rs
    split at ho
    · rename_i h
      obtain ⟨h1, h2, h3⟩ := h
      refine ⟨(K _ _ _ _ ho).1, fun g => ?_⟩
      intro A H locs kc ks LS hW hwf hls hst hn hA hS hL hc hs
      rw [List.map_cons, qa_eta h1, qa_v1, qa_rfr h2]
      refine W.objInit C.1 C.2.1 C.2.2.2.1 (C.2.2.2.2.1 _ (hw _ (by simp))) (C.2.2.2.2.1 _ (hw _ (by simp))) (C.2.2.2.2.1 _ (hw _ (by simp))) rfl (hL.1.trans C.2.2.1.symm) rfl d hRf ?_ ((K _ _ _ _ ho).2 g A H locs kc ks LS hW hwf hls (qa_okl_tl hst) hn hA hS hL hc hs)
      have := lv_room (m := m) (pc := pc) (ls := LS) (rest := (.ref (A v.2) :: rs.map (qa_val A))) (qa_cats A rs h3)
      show 2 * (F0 m pc LS (.ref (A v.2) :: rs.map (qa_val A))).monitorRoom + _ + 12 ≤ _
      omega
    · cases ho
  · cases ho
theorem ok_iand (C : qa_C xb Ai p s m args meth c cc nL own A0 R c0 s0 r) {pc : Nat} {k : qI} (d : decode cc pc = .ok (.iand, 1)) (K : qa_OK p l e R s m args below meth c Q D A0 Ai n0 nL c0 s0 r pcs (pc + 1) k) : qa_OK p l e R s m args below meth c Q D A0 Ai n0 nL c0 s0 r pcs pc (q_iand k) := by
  refine qa_bin K (fun x y => x % (y + 1)) (fun ls st a o ho => ?_)
  unfold q_iand at ho
  split at ho
  · rename_i y x rs
    split at ho
    · rename_i h
      refine ⟨x.2, y.2, rs, by rw [← qa_eta h.1, ← qa_eta h.2.1], ho, fun hx hy => ?_⟩
      have h2 : qa_rg (x.2 % (y.2 + 1)) := by rcases h.2.2 with e | e <;> (rw [e]; exact ⟨by omega, by omega⟩)
      refine ⟨h2, fun H locs kc ks LS rest kk => lv_iand C.1 C.2.1 d ?_⟩
      have e : Int32.ofInt x.2 &&& Int32.ofInt y.2 = Int32.ofInt (x.2 % (y.2 + 1)) := by
        apply Int32.toInt_inj.mp
        rcases h.2.2 with e | e
        · rw [e] at h2 ⊢
          rw [Jvm.Kit.i32_mask (Int32.ofInt x.2) (Int32.ofInt 63) (k := 6) (by decide) (by decide), q_i32 hx, q_i32 h2]
          rfl
        · rw [e] at h2 ⊢
          rw [Jvm.Kit.i32_mask (Int32.ofInt x.2) (Int32.ofInt 255) (k := 8) (by decide) (by decide), q_i32 hx, q_i32 h2]
          rfl
      rw [e]
      exact kk
    · cases ho
  · cases ho
theorem q_divrg {x : Int} (hx : qa_rg x) (k : Nat) : qa_rg (x / 2 ^ k) := by
  have hp : (0 : Int) < 2 ^ k := Int.pow_pos (by decide)
  obtain ⟨h1, h2⟩ := hx
  constructor
  · have : (-2147483648 : Int) / 2 ^ k ≤ x / 2 ^ k := Int.ediv_le_ediv hp h1
    have h3 : (-2147483648 : Int) ≤ -2147483648 / 2 ^ k := by
      rw [Int.le_ediv_iff_mul_le hp]
      have h4 := Int.mul_le_mul_of_nonneg_left (show (1 : Int) ≤ 2 ^ k from hp) (show (0 : Int) ≤ 2147483648 by decide)
      rw [Int.neg_mul]
      omega
    omega
  · by_cases h0 : 0 ≤ x
    · have := Int.ediv_le_self (2 ^ k) h0
      omega
    · have := Int.ediv_neg_of_neg_of_pos (show x < 0 by omega) hp
      omega
theorem ok_ishr (C : qa_C xb Ai p s m args meth c cc nL own A0 R c0 s0 r) {pc : Nat} {k : qI} (d : decode cc pc = .ok (.ishr, 1)) (K : qa_OK p l e R s m args below meth c Q D A0 Ai n0 nL c0 s0 r pcs (pc + 1) k) : qa_OK p l e R s m args below meth c Q D A0 Ai n0 nL c0 s0 r pcs pc (q_ishr k) := by
  refine qa_bin K (fun x y => x / 2 ^ y.toNat) (fun ls st a o ho => ?_)
  unfold q_ishr at ho
  split at ho
  · rename_i y x rs
    split at ho
    · rename_i h
      refine ⟨x.2, y.2, rs, by rw [← qa_eta h.1, ← qa_eta h.2.1], ho, fun hx hy => ?_⟩
      have h2 := q_divrg hx y.2.toNat
      refine ⟨h2, fun H locs kc ks LS rest kk => lv_ishr C.1 C.2.1 d ?_⟩
      have e : Int32.ofInt x.2 >>> (Int32.ofInt y.2 &&& 31) = Int32.ofInt (x.2 / 2 ^ y.2.toNat) := by
        apply Int32.toInt_inj.mp
        rw [q_i32 h2, Jvm.Kit.i32_shr (Int32.ofInt x.2) (Int32.ofInt y.2 &&& 31) (k := y.2.toNat) (by rcases h.2.2 with e | e | e | e <;> (rw [e]; decide)), q_i32 hx]
      rw [e]
      exact kk
    · cases ho
  · cases ho
theorem ok_i2b (C : qa_C xb Ai p s m args meth c cc nL own A0 R c0 s0 r) {pc : Nat} {k : qI} (d : decode cc pc = .ok (.i2b, 1)) (K : qa_OK p l e R s m args below meth c Q D A0 Ai n0 nL c0 s0 r pcs (pc + 1) k) : qa_OK p l e R s m args below meth c Q D A0 Ai n0 nL c0 s0 r pcs pc (q_i2b k) := by
  refine qa_gen K (fun ls st a o ho => ?_)
  unfold q_i2b at ho
  split at ho
  · rename_i x rs
    split at ho
    · rename_i h
      refine ⟨ls, (0, qa_b x.2) :: rs, pc + 1, Or.inl ⟨ho, rfl⟩, fun N g1 g2 => ⟨g1, qa_okl_cons (qa_oki (by unfold qa_b; exact ⟨by omega, by omega⟩)) (qa_okl_tl g2)⟩, fun _ N g1 g2 A H locs kc ks LS hL kk => ?_⟩
      have hx := qa_rgi (qa_okl_hd g2) h
      rw [List.map_cons, qa_eta h]
      exact lv_i2b C.1 C.2.1 d (q_byte hx) (kk LS hL)
    · cases ho
  · cases ho
theorem q_i64 {v : Int} (h : qa_rg v) : (Int64.ofInt v).toInt = v := Int64.toInt_ofInt_of_le (by have := h.1; omega) (by have := h.2; omega)
theorem ok_i2l (C : qa_C xb Ai p s m args meth c cc nL own A0 R c0 s0 r) {pc : Nat} {k : qI} (d : decode cc pc = .ok (.i2l, 1)) (K : qa_OK p l e R s m args below meth c Q D A0 Ai n0 nL c0 s0 r pcs (pc + 1) k) : qa_OK p l e R s m args below meth c Q D A0 Ai n0 nL c0 s0 r pcs pc (q_i2l k) := by
  refine qa_gen K (fun ls st a o ho => ?_)
  unfold q_i2l at ho
  split at ho
  · rename_i x rs
    split at ho
    · rename_i h
      have hx : ∀ {N}, qa_okl N (x :: rs) → qa_rg x.2 := fun g2 => qa_rgi (qa_okl_hd g2) h
      refine ⟨ls, (2, x.2) :: rs, pc + 1, Or.inl ⟨ho, rfl⟩, fun N g1 g2 => ⟨g1, qa_okl_cons ⟨fun _ => hx g2, fun h => nomatch h⟩ (qa_okl_tl g2)⟩, fun _ N g1 g2 A H locs kc ks LS hL kk => ?_⟩
      rw [List.map_cons, qa_eta h]
      refine lv_i2l C.1 C.2.1 d (v := Int64.ofInt x.2) ?_ (kk LS hL)
      apply Int64.toInt_inj.mp
      rw [Int32.toInt_toInt64, q_i32 (hx g2), q_i64 (hx g2)]
    · cases ho
  · cases ho
theorem ok_lcmp (C : qa_C xb Ai p s m args meth c cc nL own A0 R c0 s0 r) {pc : Nat} {k : qI} (d : decode cc pc = .ok (.lcmp, 1)) (K : qa_OK p l e R s m args below meth c Q D A0 Ai n0 nL c0 s0 r pcs (pc + 1) k) : qa_OK p l e R s m args below meth c Q D A0 Ai n0 nL c0 s0 r pcs pc (q_lcmp k) := by
  refine qa_gen K (fun ls st a o ho => ?_)
  unfold q_lcmp at ho
  split at ho
  · rename_i y x rs
    split at ho
    · rename_i h
      refine ⟨ls, (0, if x.2 < y.2 then -1 else if x.2 = y.2 then 0 else 1) :: rs, pc + 1, Or.inl ⟨ho, rfl⟩, fun N g1 g2 => ⟨g1, qa_okl_cons (qa_oki (by split <;> first | exact ⟨by decide, by decide⟩ | (split <;> exact ⟨by decide, by decide⟩))) (qa_okl_tl (qa_okl_tl g2))⟩, fun _ N g1 g2 A H locs kc ks LS hL kk => ?_⟩
      have hy : qa_rg y.2 := (qa_okl_hd g2).1 (Or.inr h.2)
      have hx : qa_rg x.2 := (qa_okl_hd (qa_okl_tl g2)).1 (Or.inr h.1)
      have kk := kk LS hL
      rw [List.map_cons, List.map_cons, qa_eta h.1, qa_eta h.2]
      refine W.lcmp C.1 C.2.1 d ?_
      have e : lg_cmp (Int64.ofInt x.2) (Int64.ofInt y.2) = Int32.ofInt (if x.2 < y.2 then -1 else if x.2 = y.2 then 0 else 1) := by
        unfold lg_cmp
        simp only [Int64.lt_iff_toInt_lt, ← Int64.toInt_inj, q_i64 hx, q_i64 hy]
        repeat' (first | rfl | (exfalso; omega) | split)
      rw [e]
      exact kk
    · cases ho
  · cases ho
theorem ok_max (C : qa_C xb Ai p s m args meth c cc nL own A0 R c0 s0 r) {pc index : Nat} {k : qI} (hw : ∀ w ∈ [Cond.methodLink own index Lib.Math.max.name, .static Lib.Math.max.name, .initialized "java/lang/Math", .code Lib.Math.max.name Lib.Math.max.code 2 (some .int)], w ∈ qa_tb) (hRf : 1 ≤ R.frames) (hRl : 21 ≤ R.locals) (d : decode cc pc = .ok (.invokestatic index, 3)) (K : qa_OK p l e R s m args below meth c Q D A0 Ai n0 nL c0 s0 r pcs (pc + 3) k) : qa_OK p l e R s m args below meth c Q D A0 Ai n0 nL c0 s0 r pcs pc (q_max k) := by
  intro ls st a o ho
  unfold q_max at ho
  split at ho
  · rename_i y x rs
    split at ho
    · rename_i h
      refine ⟨(K _ _ _ _ ho).1, fun g => ?_⟩
      have hb := qa_bud (K _ _ _ _ ho).1 g
      intro A H locs kc ks LS hW hwf hls hst hn hA hS hL hc hs
      have hy := qa_rgi (qa_okl_hd hst) h.2.1
      have hx := qa_rgi (qa_okl_hd (qa_okl_tl hst)) h.1
      have r1 : c0 + R.cells = r.2.2.2.2.1 := C.2.2.2.2.2.2.2.1
      have r2 : s0 + R.slots = r.2.2.2.2.2 := C.2.2.2.2.2.2.2.2.1
      have kk := (K _ _ _ _ ho).2 g A H locs kc ks LS hW hwf hls (qa_okl_cons (qa_oki (by split <;> assumption)) (qa_okl_tl (qa_okl_tl hst))) hn hA hS hL hc hs
      rw [List.map_cons, List.map_cons, qa_eta h.1, qa_eta h.2.1, qa_v0, qa_v0]
      refine va_mmax C.1 C.2.1 (C.2.2.1.trans hL.1.symm) C.2.2.2.1 (C.2.2.2.2.1 _ (hw _ (by simp))) (C.2.2.2.2.1 _ (hw _ (by simp))) (C.2.2.2.2.1 _ (hw _ (by simp))) (C.2.2.2.2.1 _ (hw _ (by simp))) hRf (by have := qa_cats A rs h.2.2; omega) (by omega) (by omega) d ?_
      rw [List.map_cons, qa_v0] at kk
      have e : (if Int32.ofInt x.2 < Int32.ofInt y.2 then Int32.ofInt y.2 else Int32.ofInt x.2) = Int32.ofInt (if x.2 < y.2 then y.2 else x.2) := by
        simp only [q_lt hx hy]
        split <;> rfl
      rw [e]
      exact kk
    · cases ho
  · cases ho
theorem ok_min (C : qa_C xb Ai p s m args meth c cc nL own A0 R c0 s0 r) {pc index : Nat} {k : qI} (hw : ∀ w ∈ [Cond.methodLink own index Lib.Math.min.name, .static Lib.Math.min.name, .initialized "java/lang/Math", .code Lib.Math.min.name Lib.Math.min.code 2 (some .int)], w ∈ qa_tb) (hRf : 1 ≤ R.frames) (hRl : 21 ≤ R.locals) (d : decode cc pc = .ok (.invokestatic index, 3)) (K : qa_OK p l e R s m args below meth c Q D A0 Ai n0 nL c0 s0 r pcs (pc + 3) k) : qa_OK p l e R s m args below meth c Q D A0 Ai n0 nL c0 s0 r pcs pc (q_min k) := by
  intro ls st a o ho
  unfold q_min at ho
  split at ho
  · rename_i y x rs
    split at ho
    · rename_i h
      refine ⟨(K _ _ _ _ ho).1, fun g => ?_⟩
      have hb := qa_bud (K _ _ _ _ ho).1 g
      intro A H locs kc ks LS hW hwf hls hst hn hA hS hL hc hs
      have hy := qa_rgi (qa_okl_hd hst) h.2.1
      have hx := qa_rgi (qa_okl_hd (qa_okl_tl hst)) h.1
      have r1 : c0 + R.cells = r.2.2.2.2.1 := C.2.2.2.2.2.2.2.1
      have r2 : s0 + R.slots = r.2.2.2.2.2 := C.2.2.2.2.2.2.2.2.1
      have kk := (K _ _ _ _ ho).2 g A H locs kc ks LS hW hwf hls (qa_okl_cons (qa_oki (by split <;> assumption)) (qa_okl_tl (qa_okl_tl hst))) hn hA hS hL hc hs
      rw [List.map_cons, List.map_cons, qa_eta h.1, qa_eta h.2.1, qa_v0, qa_v0]
      refine va_mmin C.1 C.2.1 (C.2.2.1.trans hL.1.symm) C.2.2.2.1 (C.2.2.2.2.1 _ (hw _ (by simp))) (C.2.2.2.2.1 _ (hw _ (by simp))) (C.2.2.2.2.1 _ (hw _ (by simp))) (C.2.2.2.2.1 _ (hw _ (by simp))) hRf (by have := qa_cats A rs h.2.2; omega) (by omega) (by omega) d ?_
      rw [List.map_cons, qa_v0] at kk
      have e : (if Int32.ofInt y.2 < Int32.ofInt x.2 then Int32.ofInt y.2 else Int32.ofInt x.2) = Int32.ofInt (if y.2 < x.2 then y.2 else x.2) := by
        simp only [q_lt hy hx]
        split <;> rfl
      rw [e]
      exact kk
    · cases ho
  · cases ho
end QS
