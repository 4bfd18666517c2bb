section QS
variable {p : Program} {l : Launch} {e : Env} {R : Room} {s : State} {m : MethodId} {args : Array Value} {below : List Frame} {meth : Method} {c : Code} {Q : State → Prop} {cc : ByteArray} {nL : Nat} {own : String} {D : va_G} {A0 : Nat → Prop} {Ai : Int → Nat} {xb : Bool} {n0 c0 s0 : Nat} {r : qR} {pcs : Nat → Nat}
theorem q_ush {x : Int} {k : Nat} {n : UInt32} (hn : n.toNat = k) (hk : k < 32) : ((Int32.ofInt x).toUInt32 >>> n).toInt32 = Int32.ofInt (qa_sg (x % 4294967296 / 2 ^ k)) ∧ qa_rg (qa_sg (x % 4294967296 / 2 ^ k)) := by
  have h1 : (Int32.ofInt x).toUInt32.toNat = (x % 4294967296).toNat := by
    show (BitVec.ofInt 32 x).toNat = _
    rw [BitVec.toNat_ofInt]
    rfl
  have h0 : 0 ≤ x % 4294967296 := Int.emod_nonneg _ (by decide)
  have h4 : x % 4294967296 < 4294967296 := Int.emod_lt_of_pos _ (by decide)
  have hp : (0 : Int) < 2 ^ k := Int.pow_pos (by decide)
  have h5 : 0 ≤ x % 4294967296 / 2 ^ k := Int.ediv_nonneg h0 (Int.le_of_lt hp)
  have h6 : x % 4294967296 / 2 ^ k ≤ x % 4294967296 := Int.ediv_le_self _ h0
  have h2 : qa_rg (qa_sg (x % 4294967296 / 2 ^ k)) := by
    unfold qa_sg
    split <;> exact ⟨by omega, by omega⟩
  refine ⟨?_, h2⟩
  apply Int32.toInt_inj.mp
  rw [q_i32 h2]
  have e2 : ((Int32.ofInt x).toUInt32 >>> n).toNat = (x % 4294967296 / 2 ^ k).toNat := by
    rw [UInt32.toNat_shiftRight, h1, hn, Nat.mod_eq_of_lt hk, Nat.shiftRight_eq_div_pow]
    apply Int.ofNat.inj
    show ((( x % 4294967296).toNat / 2 ^ k : Nat) : Int) = ((x % 4294967296 / 2 ^ k).toNat : Int)
    rw [Int.natCast_ediv, Int.toNat_of_nonneg h0, Int.toNat_of_nonneg h5]
    congr 1
  show (((Int32.ofInt x).toUInt32 >>> n).toBitVec).toInt = _
  rw [BitVec.toInt_eq_toNat_cond]
  have e3 : (((Int32.ofInt x).toUInt32 >>> n).toBitVec).toNat = (x % 4294967296 / 2 ^ k).toNat := e2
  rw [e3]
  unfold qa_sg
  by_cases h : x % 4294967296 / 2 ^ k < 2147483648
  · rw [if_pos (by omega), if_pos h]
    omega
  · rw [if_neg (by omega), if_neg h]
    omega
theorem ok_iushr (C : qa_C xb Ai p s m args meth c cc nL own A0 R c0 s0 r) {pc : Nat} {k : qI} (d : decode cc pc = .ok (.iushr, 1)) (K : qa_OK p l e R s m args below meth c Q D A0 Ai n0 nL c0 s0 r pcs (pc + 1) k) : qa_OK p l e R s m args below meth c Q D A0 Ai n0 nL c0 s0 r pcs pc (q_iushr k) := by
  refine qa_bin K (fun x y => qa_sg (x % 4294967296 / 2 ^ y.toNat)) (fun ls st a o ho => ?_)
  unfold q_iushr at ho
  split at ho
  · rename_i y x rs
    split at ho
    · rename_i h
      refine ⟨x.2, y.2, rs, by rw [← qa_eta h.1, ← qa_eta h.2.1], ho, fun hx hy => ?_⟩
      have key := q_ush (x := x.2) (k := y.2.toNat) (n := (Int32.ofInt y.2).toUInt32 &&& Int32.toUInt32 31) (by rcases h.2.2 with e | e | e | e <;> (rw [e]; decide)) (by rcases h.2.2 with e | e | e | e <;> (rw [e]; decide))
      exact ⟨key.2, fun H locs kc ks LS rest kk => lv_iushr C.1 C.2.1 d key.1 kk⟩
    · cases ho
  · cases ho
theorem qa_okf {n : Nat} {t : Nat} {x : Int} (h : 2 < t) : qa_okv n (t, x) := ⟨fun z => by rcases z with z | z <;> (dsimp only at z; omega), fun z => by dsimp only at z; omega⟩
theorem qa_f32 (A : Int → Nat) (b : UInt32) : qa_val A (3, ((b.toNat : Nat) : Int)) = .float b := by
  rw [qa_v3, Int.toNat_natCast, UInt32.ofNat_toNat]
theorem qa_f64 (A : Int → Nat) (b : UInt64) : qa_val A (4, ((b.toNat : Nat) : Int)) = .double b := by
  rw [qa_v4, Int.toNat_natCast, UInt64.ofNat_toNat]
theorem ok_i2f (C : qa_C xb Ai p s m args meth c cc nL own A0 R c0 s0 r) {pc : Nat} {k : qI} (d : decode cc pc = .ok (.i2f, 1)) (K : qa_OK p l e R s m args below meth c Q D A0 Ai n0 nL c0 s0 r pcs (pc + 1) k) : qa_OK p l e R s m args below meth c Q D A0 Ai n0 nL c0 s0 r pcs pc (q_i2f k) := by
  refine qa_gen K (fun ls st a o ho => ?_)
  unfold q_i2f at ho
  split at ho
  · rename_i x rs
    split at ho
    · rename_i h
      refine ⟨ls, _, pc + 1, Or.inl ⟨ho, rfl⟩, fun N g1 g2 => ⟨g1, qa_okl_cons (qa_okf (by decide)) (qa_okl_tl g2)⟩, fun _ N g1 g2 A H locs kc ks LS hL kk => ?_⟩
      have kk := kk LS hL
      rw [List.map_cons, qa_f32] at kk
      rw [List.map_cons, qa_eta h, qa_v0]
      exact lv_i2f C.1 C.2.1 d kk
    · cases ho
  · cases ho
theorem ok_i2d (C : qa_C xb Ai p s m args meth c cc nL own A0 R c0 s0 r) {pc : Nat} {k : qI} (d : decode cc pc = .ok (.i2d, 1)) (K : qa_OK p l e R s m args below meth c Q D A0 Ai n0 nL c0 s0 r pcs (pc + 1) k) : qa_OK p l e R s m args below meth c Q D A0 Ai n0 nL c0 s0 r pcs pc (q_i2d k) := by
  refine qa_gen K (fun ls st a o ho => ?_)
  unfold q_i2d at ho
  split at ho
  · rename_i x rs
    split at ho
    · rename_i h
      refine ⟨ls, _, pc + 1, Or.inl ⟨ho, rfl⟩, fun N g1 g2 => ⟨g1, qa_okl_cons (qa_okf (by decide)) (qa_okl_tl g2)⟩, fun _ N g1 g2 A H locs kc ks LS hL kk => ?_⟩
      have kk := kk LS hL
      rw [List.map_cons, qa_f64] at kk
      rw [List.map_cons, qa_eta h, qa_v0]
      exact lv_i2d C.1 C.2.1 d kk
    · cases ho
  · cases ho
theorem ok_f2d (C : qa_C xb Ai p s m args meth c cc nL own A0 R c0 s0 r) {pc : Nat} {k : qI} (d : decode cc pc = .ok (.f2d, 1)) (K : qa_OK p l e R s m args below meth c Q D A0 Ai n0 nL c0 s0 r pcs (pc + 1) k) : qa_OK p l e R s m args below meth c Q D A0 Ai n0 nL c0 s0 r pcs pc (q_f2d k) := by
  refine qa_gen K (fun ls st a o ho => ?_)
  unfold q_f2d at ho
  split at ho
  · rename_i x rs
    split at ho
    · rename_i h
      refine ⟨ls, _, pc + 1, Or.inl ⟨ho, rfl⟩, fun N g1 g2 => ⟨g1, qa_okl_cons (qa_okf (by decide)) (qa_okl_tl g2)⟩, fun _ N g1 g2 A H locs kc ks LS hL kk => ?_⟩
      have kk := kk LS hL
      rw [List.map_cons, qa_f64] at kk
      rw [List.map_cons, qa_eta h.1, qa_v3]
      exact lv_f2d C.1 C.2.1 d h.2 kk
    · cases ho
  · cases ho
theorem ok_fdiv (C : qa_C xb Ai p s m args meth c cc nL own A0 R c0 s0 r) {pc : Nat} {k : qI} (d : decode cc pc = .ok (.fdiv, 1)) (K : qa_OK p l e R s m args below meth c Q D A0 Ai n0 nL c0 s0 r pcs (pc + 1) k) : qa_OK p l e R s m args below meth c Q D A0 Ai n0 nL c0 s0 r pcs pc (q_fdiv k) := by
  refine qa_gen K (fun ls st a o ho => ?_)
  unfold q_fdiv at ho
  split at ho
  · rename_i y x rs
    split at ho
    · rename_i h
      refine ⟨ls, _, pc + 1, Or.inl ⟨ho, rfl⟩, fun N g1 g2 => ⟨g1, qa_okl_cons (qa_okf (by decide)) (qa_okl_tl (qa_okl_tl g2))⟩, fun _ N g1 g2 A H locs kc ks LS hL kk => ?_⟩
      have kk := kk LS hL
      rw [List.map_cons, qa_f32] at kk
      rw [List.map_cons, List.map_cons, qa_eta h.1, qa_eta h.2.1, qa_v3, qa_v3]
      exact lv_fdiv C.1 C.2.1 d h.2.2 kk
    · cases ho
  · cases ho
theorem ok_ddiv (C : qa_C xb Ai p s m args meth c cc nL own A0 R c0 s0 r) {pc : Nat} {k : qI} (d : decode cc pc = .ok (.ddiv, 1)) (K : qa_OK p l e R s m args below meth c Q D A0 Ai n0 nL c0 s0 r pcs (pc + 1) k) : qa_OK p l e R s m args below meth c Q D A0 Ai n0 nL c0 s0 r pcs pc (q_ddiv k) := by
  refine qa_gen K (fun ls st a o ho => ?_)
  unfold q_ddiv at ho
  split at ho
  · rename_i y x rs
    split at ho
    · rename_i h
      refine ⟨ls, _, pc + 1, Or.inl ⟨ho, rfl⟩, fun N g1 g2 => ⟨g1, qa_okl_cons (qa_okf (by decide)) (qa_okl_tl (qa_okl_tl g2))⟩, fun _ N g1 g2 A H locs kc ks LS hL kk => ?_⟩
      have kk := kk LS hL
      rw [List.map_cons, qa_f64] at kk
      rw [List.map_cons, List.map_cons, qa_eta h.1, qa_eta h.2.1, qa_v4, qa_v4]
      exact lv_ddiv C.1 C.2.1 d h.2.2 kk
    · cases ho
  · cases ho
theorem ok_dcmpl (C : qa_C xb Ai p s m args meth c cc nL own A0 R c0 s0 r) {pc : Nat} {k : qI} (d : decode cc pc = .ok (.dcmp .l, 1)) (K : qa_OK p l e R s m args below meth c Q D A0 Ai n0 nL c0 s0 r pcs (pc + 1) k) : qa_OK p l e R s m args below meth c Q D A0 Ai n0 nL c0 s0 r pcs pc (q_dcmpl k) := by
  refine qa_gen K (fun ls st a o ho => ?_)
  unfold q_dcmpl at ho
  split at ho
  · rename_i y x rs
    split at ho
    · rename_i h
      refine ⟨ls, _, pc + 1, Or.inl ⟨ho, rfl⟩, fun N g1 g2 => ⟨g1, qa_okl_cons (qa_oki ⟨Int32.le_toInt _, by have := Int32.toInt_lt (Op.cmpValue (FP.dcmp (UInt64.ofNat x.2.toNat) (UInt64.ofNat y.2.toNat)) .l); omega⟩) (qa_okl_tl (qa_okl_tl g2))⟩, fun _ N g1 g2 A H locs kc ks LS hL kk => ?_⟩
      have kk := kk LS hL
      rw [List.map_cons, qa_v0, Int32.ofInt_toInt] at kk
      rw [List.map_cons, List.map_cons, qa_eta h.1, qa_eta h.2, qa_v4, qa_v4]
      exact lv_dcmp C.1 C.2.1 d kk
    · cases ho
  · cases ho
theorem ok_fconst0 (C : qa_C xb Ai p s m args meth c cc nL own A0 R c0 s0 r) {pc : Nat} {k : qI} (d : decode cc pc = .ok (.fconst 0, 1)) (K : qa_OK p l e R s m args below meth c Q D A0 Ai n0 nL c0 s0 r pcs (pc + 1) k) : qa_OK p l e R s m args below meth c Q D A0 Ai n0 nL c0 s0 r pcs pc (q_const (3, 0) k) := by
  refine qa_gen K (fun ls st a o ho => ⟨ls, (3, 0) :: st, pc + 1, Or.inl ⟨ho, rfl⟩, fun N h1 h2 => ⟨h1, qa_okl_cons (qa_okf (by decide)) h2⟩, fun _ N h1 h2 A H locs kc ks LS hL kk => ?_⟩)
  exact lv_fconst0 C.1 C.2.1 d (kk LS hL)
theorem ok_fconst1 (C : qa_C xb Ai p s m args meth c cc nL own A0 R c0 s0 r) {pc : Nat} {k : qI} (d : decode cc pc = .ok (.fconst 1, 1)) (K : qa_OK p l e R s m args below meth c Q D A0 Ai n0 nL c0 s0 r pcs (pc + 1) k) : qa_OK p l e R s m args below meth c Q D A0 Ai n0 nL c0 s0 r pcs pc (q_const (3, 1065353216) k) := by
  refine qa_gen K (fun ls st a o ho => ⟨ls, (3, 1065353216) :: st, pc + 1, Or.inl ⟨ho, rfl⟩, fun N h1 h2 => ⟨h1, qa_okl_cons (qa_okf (by decide)) h2⟩, fun _ N h1 h2 A H locs kc ks LS hL kk => ?_⟩)
  exact lv_fconst1 C.1 C.2.1 d (kk LS hL)
theorem ok_dconst0 (C : qa_C xb Ai p s m args meth c cc nL own A0 R c0 s0 r) {pc : Nat} {k : qI} (d : decode cc pc = .ok (.dconst 0, 1)) (K : qa_OK p l e R s m args below meth c Q D A0 Ai n0 nL c0 s0 r pcs (pc + 1) k) : qa_OK p l e R s m args below meth c Q D A0 Ai n0 nL c0 s0 r pcs pc (q_const (4, 0) k) := by
  refine qa_gen K (fun ls st a o ho => ⟨ls, (4, 0) :: st, pc + 1, Or.inl ⟨ho, rfl⟩, fun N h1 h2 => ⟨h1, qa_okl_cons (qa_okf (by decide)) h2⟩, fun _ N h1 h2 A H locs kc ks LS hL kk => ?_⟩)
  exact lv_dconst0 C.1 C.2.1 d (kk LS hL)
end QS
