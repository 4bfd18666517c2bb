def q_copyb (k : qI) : qI := fun ls st a => match st with
  | n :: _ :: _ :: sp :: s :: _ => if (∀ i : Fin 100000, sp.2 ≤ (i.val : Int) → (i.val : Int) < sp.2 + n.2 → -128 ≤ a.1 s.2 (i.val : Int) ∧ a.1 s.2 (i.val : Int) < 128) ∧ sp.2 + n.2 ≤ 100000 then q_copy 102 k ls st a else none
  | _ => none
def qa_dv (x y : Int) : Int := -((-x) / y)
def q_idivn (k : qI) : qI := fun ls st a => match st with
  | y :: x :: r => if x.1 = 0 ∧ y.1 = 0 ∧ x.2 ≤ 0 ∧ 0 < y.2 then k ls ((0, qa_dv x.2 y.2) :: r) a else none
  | _ => none
def q_putb (ci j : Nat) (k : qI) : qI := fun ls st a => match st with
  | v :: o :: r => if v.1 = 0 ∧ (-128 ≤ v.2 ∧ v.2 < 128) ∧ o.1 = 1 ∧ (a.2.1 o.2).1 = ci + 1 then k ls r (qa_up a.1 o.2 j v.2, a.2) else none
  | _ => none
section QS
variable {p : Program} {l : Launch} {e : Env} {R : Room} {s : State} {m : MethodId} {args : Array Value} {below : List Frame} {meth : Method} {c : Code} {Q : State → Prop} {cc : ByteArray} {nL : Nat} {own : String} {D : va_G} {A0 : Nat → Prop} {Ai : Int → Nat} {xb : Bool} {n0 c0 s0 : Nat} {r : qR} {pcs : Nat → Nat}
theorem qa_fitb {x : Int} (h1 : -128 ≤ x) (h2 : x < 128) : fits .byte (.int (Int32.ofInt x)) = true := by
  have hx : qa_rg x := ⟨by omega, by omega⟩
  simp only [fits, Bool.and_eq_true, decide_eq_true_eq, Int32.le_iff_toInt_le, q_i32 hx]
  exact ⟨h1, by show x ≤ 127; omega⟩
theorem ok_copyb (C : qa_C xb Ai p s m args meth c cc nL own A0 R c0 s0 r) {pc index : Nat} {k : qI} (hw : ∀ w ∈ [Cond.methodLink own index arraycopyName, .native arraycopyName, .static arraycopyName, .initialized "java/lang/System"], w ∈ qa_tb) (hRf : 1 ≤ R.frames) (hRl : 8 + (nativeFrameWords "java/lang/System" "arraycopy" 5 + 11) ≤ R.locals) (d : decode cc pc = .ok (.invokestatic index, 3)) (K : qa_OK p l e R s m args below meth c Q D A0 Ai n0 nL c0 s0 r pcs (pc + 3) k) : qa_OK p l e R s m args below meth c Q D A0 Ai n0 nL c0 s0 r pcs pc (q_copyb k) :=
  qa_copyg C (ty := 102) (by omega) (fun a ss sp n => ∀ i : Int, 0 ≤ i → sp ≤ i → i < sp + n → -128 ≤ a.1 ss i ∧ a.1 ss i < 128) K (fun ls st a o ho => by
    unfold q_copyb at ho
    split at ho
    · rename_i n dp dd sp ss rs
      split at ho
      · rename_i h9
        obtain ⟨n', dp', dd', sp', ss', rs', h⟩ := qa_copy_inv ho
        obtain ⟨h0, h⟩ := h
        simp only [List.cons.injEq] at h0
        obtain ⟨rfl, rfl, rfl, rfl, rfl, rfl⟩ := h0
        exact ⟨_, _, _, _, _, _, rfl, h.1, h.2.1, h.2.2.1, h.2.2.2.1, h.2.2.2.2.1, h.2.2.2.2.2.1, h.2.2.2.2.2.2.1, h.2.2.2.2.2.2.2.1, h.2.2.2.2.2.2.2.2, fun i hi h1 h2 => by
          have := h9.1 ⟨i.toNat, by have := h9.2; dsimp only at this; omega⟩
          dsimp only at this
          rw [qa_nat hi] at this
          exact this h1 h2⟩
      · cases ho
    · cases ho)
    (fun A cA tys a H locs kc ks LS n dp dd sp ss t0 t1 rest hwf hp hsz hK hP hD hS he he' ht0 ht1 h8 h9 h10 r1 r2 r3 h11 h12 l0 l1 hcat kk => by
      refine va_copyi C.1 C.2.1 (C.2.2.1.trans hsz.symm) C.2.2.2.1 (C.2.2.2.2.1 _ (hw _ (by simp))) (C.2.2.2.2.1 _ (hw _ (by simp))) (C.2.2.2.2.1 _ (hw _ (by simp))) (C.2.2.2.2.1 _ (hw _ (by simp))) hK hP hD hS _ _ t0 t1 (f := fun i : Nat => Int32.ofInt (a.1 ss (i : Int))) (g := fun i : Nat => Int32.ofInt (a.1 dd (i : Int))) (ty := .byte) he he' ht0 ht1 rfl (by rw [q_lt0 r3]; omega) (by rw [q_lt0 r2]; omega) (by rw [q_lt0 r1]; omega) (by rw [q_clamp r3, q_clamp r1]; omega) (by rw [q_clamp r2, q_clamp r1]; omega) (fun i hi => ?_) hRf (by omega) d ?_
      · rw [q_clamp r1] at hi
        rw [q_clamp r3]
        have h := hp ((sp.toNat + i : Nat) : Int) (by omega) (by omega) (by omega)
        exact qa_fitb h.1 h.2
      · rw [q_clamp r3, q_clamp r2, q_clamp r1, ← qa_cpy (A := A) (g := Int32.ofInt) h10 h9 h8]
        exact kk)
theorem ok_idivn (C : qa_C xb Ai p s m args meth c cc nL own A0 R c0 s0 r) {pc : Nat} {k : qI} (d : decode cc pc = .ok (.idiv, 1)) (K : qa_OK p l e R s m args below meth c Q D A0 Ai n0 nL c0 s0 r pcs (pc + 1) k) : qa_OK p l e R s m args below meth c Q D A0 Ai n0 nL c0 s0 r pcs pc (q_idivn k) := by
  refine qa_bin K qa_dv (fun ls st a o ho => ?_)
  unfold q_idivn at ho
  split at ho
  · rename_i y x rs
    split at ho
    · rename_i h
      refine ⟨x.2, y.2, rs, by rw [← qa_eta h.1, ← qa_eta h.2.1], ho, fun hx hy => ?_⟩
      have a1 := Int.ediv_nonneg (show 0 ≤ -x.2 by omega) (Int.le_of_lt h.2.2.2)
      have a2 := Int.ediv_le_self y.2 (show 0 ≤ -x.2 by omega)
      have h2 : qa_rg (qa_dv x.2 y.2) := by
        unfold qa_dv
        have := hx.1
        exact ⟨by omega, by omega⟩
      refine ⟨h2, fun H locs kc ks LS rest kk => ?_⟩
      refine lv_idiv C.1 C.2.1 d (q_ne0 hy h.2.2.2) ?_
      have e : Int32.ofInt x.2 / Int32.ofInt y.2 = Int32.ofInt (qa_dv x.2 y.2) := by
        apply Int32.toInt_inj.mp
        rw [Jvm.Kit.i32_div (by rw [q_i32 hx, q_i32 hy]; have := h.2.2.2; omega), q_i32 hx, q_i32 hy, q_i32 h2]
        have e2 : x.2 = -(-x.2) := by omega
        unfold qa_dv
        conv => lhs; rw [e2]
        rw [Int.neg_tdiv, Int.tdiv_eq_ediv_of_nonneg (by omega)]
      rw [e]
      exact kk
    · cases ho
  · cases ho
theorem ok_putb (C : qa_C xb Ai p s m args meth c cc nL own A0 R c0 s0 r) {pc index ci j : Nat} {k : qI} {Cn : String} {T : u_T} {N : Nat} {ty0 : Nat → FieldType} (hK0 : qa_K ci Cn T N ty0) (hj : j < N) (ht : ty0 j = .byte) {ref fn fd : String} (hfn : (T j).2.1 = fn) (hfd : (T j).2.2.1 = fd) (hlink : Cond.fieldLink own index ref fn fd ∈ qa_tb) (hsame : ∀ x, s.fieldFound? (T j).1 (T j).2.1 (T j).2.2.1 = some x → s.fieldFound? ref (T j).2.1 (T j).2.2.1 = some x) (hfin : (T j).2.2.2 = false ∨ ((T j).2.2.2 = true ∧ meth.name = "<init>" ∧ (T j).1 = own)) (d : decode cc pc = .ok (.putfield index, 3)) (K : qa_OK p l e R s m args below meth c Q D A0 Ai n0 nL c0 s0 r pcs (pc + 3) k) : qa_OK p l e R s m args below meth c Q D A0 Ai n0 nL c0 s0 r pcs pc (q_putb ci j k) := by
  refine qa_putg (t := 0) C hK0 hj (by rw [ht]; rfl) hfn hfd hlink hsame hfin (fun x => -128 ≤ x ∧ x < 128) (fun A x hx => ?_) d K (fun ls st a o ho => ?_)
  · rw [ht]
    refine ⟨?_, qa_fitb hx.1 hx.2⟩
    have hr : qa_rg x := ⟨by have := hx.1; omega, by have := hx.2; omega⟩
    rw [qa_v0]
    show Value.int (vp_nar .byte (Int32.ofInt x)) = .int (Int32.ofInt x)
    rw [q_byte hr]
    congr 2
    unfold qa_b
    have := hx.1
    have := hx.2
    omega
  · unfold q_putb at ho
    split at ho
    · rename_i v y rs
      split at ho
      · rename_i h
        exact ⟨v.2, y.2, rs, by rw [← qa_eta h.1, ← qa_eta h.2.2.1], h.2.1, h.2.2.2, ho⟩
      · cases ho
    · cases ho
end QS
