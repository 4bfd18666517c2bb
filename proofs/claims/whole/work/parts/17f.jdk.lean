noncomputable def q_getq (k : qI) : qI := fun ls st a => by
  classical
  exact if k ls ((1, -1) :: st) a = k ls ((1, -16) :: st) a then k ls ((1, -1) :: st) a else none
def q_retc : qI := fun _ st a => match st with
  | v :: [] => if v.1 = 0 ∧ 0 ≤ v.2 ∧ v.2 < 65536 then some (.inr (.inl (some (0, v.2)), a)) else none
  | _ => none
def q_retby : qI := fun _ st a => match st with
  | v :: [] => if v.1 = 0 ∧ -128 ≤ v.2 ∧ v.2 < 128 then some (.inr (.inl (some (0, v.2)), a)) else none
  | _ => none
def q_i2c (k : qI) : qI := fun ls st a => match st with
  | x :: r => if x.1 = 0 ∧ 0 ≤ x.2 ∧ x.2 < 65536 then k ls (x :: r) a else none
  | _ => none
def q_ishl (k : qI) : qI := fun ls st a => match st with
  | y :: x :: r => if x.1 = 0 ∧ y.1 = 0 ∧ y.2 = 0 then k ls (x :: r) a else none
  | _ => none
section QS
variable {p : Program} {l : Launch} {e : Env} {R : Room} {s : State} {m : MethodId} {args : Array Value} {below : List Frame} {meth : Method} {c : Code} {Q : State → Prop} {cc : ByteArray} {nL : Nat} {own : String} {D : va_G} {A0 : Nat → Prop} {Ai : Int → Nat} {xb : Bool} {n0 c0 s0 : Nat} {r : qR} {pcs : Nat → Nat}
theorem ok_getq (C : qa_C xb Ai p s m args meth c cc nL own A0 R c0 s0 r) {pc index : Nat} {k : qI} (hlink : Cond.fieldLink own index "jdk/internal/util/Preconditions" "SIOOBE_FORMATTER" "Ljava/util/function/BiFunction;" ∈ qa_tb) (d : decode cc pc = .ok (.getstatic index, 3)) (K : qa_OK p l e R s m args below meth c Q D A0 Ai n0 nL c0 s0 r pcs (pc + 3) k) : qa_OK p l e R s m args below meth c Q D A0 Ai n0 nL c0 s0 r pcs pc (q_getq k) := by
  intro ls st a o ho
  unfold q_getq at ho
  split at ho
  · rename_i heq
    have ho2 := ho
    rw [heq] at ho2
    refine ⟨(K _ _ _ _ ho).1, fun g => ?_⟩
    intro A H locs kc ks LS hW hwf hls hst hn hA hS hL hc hs
    have okn : ∀ x : Int, x < 0 → qa_okv a.2.2.1 (1, x) := fun x hx => qa_okst (Or.inr ⟨rfl, hx⟩)
    rcases C.2.2.2.2.2.2.2.2.2.2.2.2.2.2.2.2.2 with hz | hz
    · have kk := (K _ _ _ _ ho).2 g A H locs kc ks LS hW hwf hls (qa_okl_cons (okn _ (by decide)) hst) hn hA hS hL hc hs
      exact va_gets C.1 C.2.1 hz hS C.2.2.2.1 (C.2.2.2.2.1 _ hlink) (fun _ h => h) d kk
    · have kk := (K _ _ _ _ ho2).2 g A H locs kc ks LS hW hwf hls (qa_okl_cons (okn _ (by decide)) hst) hn hA hS hL hc hs
      rw [List.map_cons, qa_v1, qa_rfr (by decide), hA _ (by omega)] at kk
      exact va_gets C.1 C.2.1 hz hS C.2.2.2.1 (C.2.2.2.2.1 _ hlink) (fun _ h => h) d kk
  · cases ho
theorem ok_i2c (C : qa_C xb Ai p s m args meth c cc nL own A0 R c0 s0 r) {pc : Nat} {k : qI} (d : decode cc pc = .ok (.i2c, 1)) (K : qa_OK p l e R s m args below meth c Q D A0 Ai n0 nL c0 s0 r pcs (pc + 1) k) : qa_OK p l e R s m args below meth c Q D A0 Ai n0 nL c0 s0 r pcs pc (q_i2c k) := by
  refine qa_gen K (fun ls st a o ho => ?_)
  unfold q_i2c at ho
  split at ho
  · rename_i x rs
    split at ho
    · rename_i h
      refine ⟨ls, x :: rs, pc + 1, Or.inl ⟨ho, rfl⟩, fun N g1 g2 => ⟨g1, g2⟩, fun _ N g1 g2 A H locs kc ks LS hL kk => ?_⟩
      have kk := kk LS hL
      have hx := qa_rgi (qa_okl_hd g2) h.1
      rw [List.map_cons, qa_eta h.1, qa_v0] at kk ⊢
      refine lv_i2c C.1 C.2.1 d (v := Int32.ofInt x.2) ?_ kk
      apply Int32.toInt_inj.mp
      rw [q_i32 hx]
      show ((((Int32.ofInt x.2).toUInt32.toUInt16.toUInt32).toInt32).toInt = x.2)
      have e1 : (Int32.ofInt x.2).toUInt32.toNat = x.2.toNat := by
        show (BitVec.ofInt 32 x.2).toNat = _
        rw [BitVec.toNat_ofInt]
        congr 1
        exact Int.emod_eq_of_lt h.2.1 (by have := h.2.2; omega)
      have e2 : (Int32.ofInt x.2).toUInt32.toUInt16.toUInt32.toNat = x.2.toNat := by
        rw [UInt16.toNat_toUInt32, UInt32.toNat_toUInt16, e1]
        exact Nat.mod_eq_of_lt (by have := h.2.2; have := h.2.1; omega)
      show ((Int32.ofInt x.2).toUInt32.toUInt16.toUInt32.toBitVec).toInt = x.2
      rw [BitVec.toInt_eq_toNat_cond]
      have e3 : ((Int32.ofInt x.2).toUInt32.toUInt16.toUInt32.toBitVec).toNat = x.2.toNat := e2
      rw [e3, if_pos (by have := h.2.2; have := h.2.1; omega)]
      exact Int.toNat_of_nonneg h.2.1
    · cases ho
  · cases ho
theorem ok_ishl (C : qa_C xb Ai p s m args meth c cc nL own A0 R c0 s0 r) {pc : Nat} {k : qI} (d : decode cc pc = .ok (.ishl, 1)) (K : qa_OK p l e R s m args below meth c Q D A0 Ai n0 nL c0 s0 r pcs (pc + 1) k) : qa_OK p l e R s m args below meth c Q D A0 Ai n0 nL c0 s0 r pcs pc (q_ishl k) := by
  refine qa_bin K (fun x y => x) (fun ls st a o ho => ?_)
  unfold q_ishl at ho
  split at ho
  · rename_i y x rs
    split at ho
    · rename_i h
      refine ⟨x.2, y.2, rs, by rw [← qa_eta h.1, ← qa_eta h.2.1], by rw [← qa_eta h.1]; exact ho, fun hx hy => ⟨hx, fun H locs kc ks LS rest kk => lv_ishl C.1 C.2.1 d ?_⟩⟩
      have e : Int32.ofInt x.2 <<< (Int32.ofInt y.2 &&& 31) = Int32.ofInt x.2 := by
        rw [h.2.2]
        apply Int32.toInt_inj.mp
        rw [Jvm.Kit.i32_shl (Int32.ofInt x.2) (Int32.ofInt 0 &&& 31) (k := 0) (by decide) (by rw [q_i32 hx]; have := hx.1; omega) (by rw [q_i32 hx]; have := hx.2; omega)]
        omega
      rw [e]
      exact kk
    · cases ho
  · cases ho
end QS
section QS
variable {p : Program} {l : Launch} {e : Env} {R : Room} {s : State} {m : MethodId} {args : Array Value} {below : List Frame} {meth : Method} {c : Code} {cc : ByteArray} {nL : Nat} {own : String} {D : va_G} {A0 : Nat → Prop} {Ai : Int → Nat} {xb : Bool} {a0 : qA} {r : qR} {pcs : Nat → Nat}
theorem ok_cret (C : qa_C xb Ai p s m args meth c cc nL own A0 R a0.2.2.2.1 a0.2.2.2.2 r) (hr : meth.sig.returnType = some .char) {pc : Nat} (d : decode cc pc = .ok (.ireturn, 1)) : qa_OK p l e R s m args below meth c (qa_Q below D Ai a0 r A0 args s) D A0 Ai a0.2.2.1 nL a0.2.2.2.1 a0.2.2.2.2 r pcs pc q_retc := by
  refine qa_retg C (fun ls st a o ho => ?_)
  unfold q_retc at ho
  split at ho
  · rename_i v
    split at ho
    · rename_i h
      refine ⟨some v, rfl, by rw [← qa_eta h.1] at ho; exact (Option.some.inj ho).symm, fun A H locs kc ks LS hq hf => ?_⟩
      rw [qa_eta h.1] at hq ⊢
      refine W.zret C.1 C.2.1 hr ?_ hq hf d C.2.2.2.2.2.1
      show Value.int (vp_nar .char (Int32.ofInt v.2)) = .int (Int32.ofInt v.2)
      congr 1
      have hx : qa_rg v.2 := ⟨by have := h.2.1; omega, by have := h.2.2; omega⟩
      have e : vp_nar .char (Int32.ofInt v.2) = (Int32.ofInt v.2).toUInt32.toUInt16.toUInt32.toInt32 := rfl
      rw [e]
      apply Int32.toInt_inj.mp
      rw [q_i32 hx]
      have e1 : (Int32.ofInt v.2).toUInt32.toNat = v.2.toNat := by
        show (BitVec.ofInt 32 v.2).toNat = _
        rw [BitVec.toNat_ofInt]
        congr 1
        exact Int.emod_eq_of_lt h.2.1 (by have := h.2.2; omega)
      have e2 : (Int32.ofInt v.2).toUInt32.toUInt16.toUInt32.toNat = v.2.toNat := by
        rw [UInt16.toNat_toUInt32, UInt32.toNat_toUInt16, e1]
        exact Nat.mod_eq_of_lt (by have := h.2.2; have := h.2.1; omega)
      show ((Int32.ofInt v.2).toUInt32.toUInt16.toUInt32.toBitVec).toInt = v.2
      rw [BitVec.toInt_eq_toNat_cond]
      have e3 : ((Int32.ofInt v.2).toUInt32.toUInt16.toUInt32.toBitVec).toNat = v.2.toNat := e2
      rw [e3, if_pos (by have := h.2.2; have := h.2.1; omega)]
      exact Int.toNat_of_nonneg h.2.1
    · cases ho
  · cases ho
theorem ok_byret (C : qa_C xb Ai p s m args meth c cc nL own A0 R a0.2.2.2.1 a0.2.2.2.2 r) (hr : meth.sig.returnType = some .byte) {pc : Nat} (d : decode cc pc = .ok (.ireturn, 1)) : qa_OK p l e R s m args below meth c (qa_Q below D Ai a0 r A0 args s) D A0 Ai a0.2.2.1 nL a0.2.2.2.1 a0.2.2.2.2 r pcs pc q_retby := by
  refine qa_retg C (fun ls st a o ho => ?_)
  unfold q_retby at ho
  split at ho
  · rename_i v
    split at ho
    · rename_i h
      refine ⟨some v, rfl, by rw [← qa_eta h.1] at ho; exact (Option.some.inj ho).symm, fun A H locs kc ks LS hq hf => ?_⟩
      rw [qa_eta h.1] at hq ⊢
      refine W.zret C.1 C.2.1 hr ?_ hq hf d C.2.2.2.2.2.1
      show Value.int (vp_nar .byte (Int32.ofInt v.2)) = .int (Int32.ofInt v.2)
      have hx : qa_rg v.2 := ⟨by have := h.2.1; omega, by have := h.2.2; omega⟩
      rw [q_byte hx]
      congr 2
      unfold qa_b
      have := h.2.1
      have := h.2.2
      omega
    · cases ho
  · cases ho
theorem qa_srecv (C : qa_C xb Ai p s m args meth c cc nL own A0 R a0.2.2.2.1 a0.2.2.2.2 r) {A : Int → Nat} {H : Heap} {locs : List Loc} {o : Int} {cn : String} (hm : (o, cn) ∈ qa_SC) (hneg : ∀ v : Int, v < 0 → A v = Ai v) (hS : va_S A0 s.heap H locs) : ∃ cell : Cell, H[A o]? = some cell ∧ cell.vm.isStatics = false ∧ s.vm.findClass cn = some cell.cls := by
  have hlt := qa_okC _ hm
  dsimp only at hlt
  have hO := (C.2.2.2.2.2.2.2.2.2.2.2.2.2.2.1.2.2.2 _ hm).kept hS.2.1
  dsimp only at hO
  rw [← hneg o (by omega)] at hO
  obtain ⟨cell, g1, g2, g3, -⟩ := hO
  exact ⟨cell, g1, g2, g3⟩
theorem qa_callsg (C : qa_C xb Ai p s m args meth c cc nL own A0 R a0.2.2.2.1 a0.2.2.2.2 r) {pc nP maxL fr lo : Nat} {cn : String} {k : qI} {f : List qV → qA → Option qR} {y : MethodName} {bytes : ByteArray} {ret : Option FieldType} (hcon : qa_Con l y bytes maxL ret fr lo f)
    (hrun : ∀ {A : Int → Nat} {a : qA} {H : Heap} {locs : List Loc} {kc ks : Nat} {LS : Array Slot} {b : Nat} {As : List qV} {rest : List Value} {r1 : qR} {av : List qV}, vx_Met l y (Cond.code y bytes maxL ret :: qa_tb) (qa_rm fr lo a r1) (va_Pc (.ref b :: As.map (qa_val A)) (qa_Pre D A a av H.size)) (qa_Post D A a r1 (qa_F A a H.size)) (qa_PostX D A a r1 (qa_F A a H.size)) (r1.2.2.2.2.1 - a.2.2.2.1) (r1.2.2.2.2.2 - a.2.2.2.2) (qa_F A a H.size) →
      PreV s H cn b (va_Pc (.ref b :: As.map (qa_val A)) (qa_Pre D A a av H.size)) (As.map (qa_val A)) → As.length = nP - 1 → LS.size = nL → (rest.map fun v => v.category).sum ≤ 8 → kc + (r1.2.2.2.2.1 - a.2.2.2.1) ≤ R.cells ∧ ks + (r1.2.2.2.2.2 - a.2.2.2.2) ≤ R.slots →
      vx_Run p l e R s m args below meth c H locs kc ks (r1.2.2.2.2.1 - a.2.2.2.1) (r1.2.2.2.2.2 - a.2.2.2.2) (F0 m pc LS ((As.map (qa_val A)).reverse ++ .ref b :: rest)) rest (qa_Post D A a r1 (qa_F A a H.size) (Value.ref b :: As.map (qa_val A)).toArray) (qa_PostX D A a r1 (qa_F A a H.size)) (qa_F A a H.size))
    (K : qa_OK p l e R s m args below meth c (qa_Q below D Ai a0 r A0 args s) D A0 Ai a0.2.2.1 nL a0.2.2.2.1 a0.2.2.2.2 r pcs (pc + 3) k) (hh : xb = true := by rfl) : qa_OK p l e R s m args below meth c (qa_Q below D Ai a0 r A0 args s) D A0 Ai a0.2.2.1 nL a0.2.2.2.1 a0.2.2.2.2 r pcs pc (q_calls cn f nP k) := by
  intro ls st a o ho
  unfold q_calls at ho
  split at ho
  · rename_i v hv
    split at ho
    · rename_i h
      obtain ⟨h1, h2, h3⟩ := h
      have hle : ∀ (av : List qV) (a : qA) (r : qR), f av a = some r → qa_le a (.inr r) := fun av a r h => (hcon av a r h).1
      refine ⟨qa_lecall hle ho (fun ls st a o h => (K ls st a o h).1), fun g => ?_⟩
      intro A H locs kc ks LS hW hwf hls hst hn hA hS hL hc hs
      refine qa_called C ho K g hle ?_ hW hwf hls hst hn hA hS hL hc hs ?_
      · intro r1 A1 A' kE H1 locs1 kc1 ks1 LS1 q ce hf g1 ho2 hA' hW1 hwf1 hS1 hL1 hc1 hs1 hce hcv hcl
        refine qa_thrown C hh (ls := ls) (st := st) g1 ?_ hA' hW1 hwf1 hS1 hc1 hs1 hce hcv hcl
        rw [ho2] at g
        exact g
      · intro r1 hf hb
        obtain ⟨hl, hM⟩ := hcon _ _ _ hf
        have hfst := qa_first h3 hv
        have hdeep := qa_deep ho
        have hlt := qa_okC _ h2
        dsimp only at hlt
        have eb : qa_val A v = .ref (A v.2) := by rw [qa_eta h1, qa_v1, qa_rfr (by omega)]
        have hav : qa_okl a.2.2.1 (st.take nP).reverse := fun x hx => hst x (List.mem_of_mem_take (List.mem_reverse.mp hx))
        have hneg : ∀ v : Int, v < 0 → A v = Ai v := fun x hx => hA x (by omega)
        have hpre := qa_pre C hW hwf hav hneg hS
        rw [qa_stk (st := st) (nP := nP)]
        have hM1 := hM D A H.size
        rw [hfst, List.map_cons, eb] at hM1 hpre ⊢
        rw [List.reverse_cons, List.append_assoc]
        exact hrun hM1 ⟨qa_blind, qa_srecv C h2 hneg hS, hpre⟩ (by rw [List.length_reverse, List.length_take]; omega) hL.1 (qa_catd A _ hdeep.2) (qa_rm_le (fr := fr) (lo := lo) C hl hb hc hs)
    · cases ho
  · cases ho
theorem ok_callss (C : qa_C xb Ai p s m args meth c cc nL own A0 R a0.2.2.2.1 a0.2.2.2.2 r) {pc index nP maxL fr lo : Nat} {cn : String} {k : qI} {f : List qV → qA → Option qR} {y : MethodName} {bytes : ByteArray} {ret : Option FieldType} (hcon : qa_Con l y bytes maxL ret fr lo f)
    (hw : ∀ w ∈ [Cond.methodLink own index y, .instanceMethod y, .selects cn y y, .initialized cn, .code y bytes maxL ret], w ∈ qa_tb)
    (hd : y.cls = cn ∧ y.cls ≠ "java/lang/invoke/MethodHandle" ∧ y.cls ≠ "java/lang/invoke/VarHandle" ∧ (parseMethodDescriptor y.desc).map (fun d => d.parameters.length) = some (nP - 1)) (hR : fr + 1 ≤ R.frames ∧ 8 + (maxL + 11) + lo ≤ R.locals)
    (d : decode cc pc = .ok (.invokevirtual index, 3)) (K : qa_OK p l e R s m args below meth c (qa_Q below D Ai a0 r A0 args s) D A0 Ai a0.2.2.1 nL a0.2.2.2.1 a0.2.2.2.2 r pcs (pc + 3) k) (hh : xb = true := by rfl) : qa_OK p l e R s m args below meth c (qa_Q below D Ai a0 r A0 args s) D A0 Ai a0.2.2.1 nL a0.2.2.2.1 a0.2.2.2.2 r pcs pc (q_calls cn f nP k) :=
  qa_callsg C hcon (fun hM hp hn hsz hcat hbud => vx_runV (Ts := qa_tb) (own := own) (C := cn) (nL := nL) ⟨C.1, C.2.1, C.2.2.1, C.2.2.2.1, C.2.2.2.2.1⟩ hM (cwV (ws' := qa_tb) (nP - 1) C.2.2.2.2.1 (qa_goodin (fun w hw' => by
      unfold wsV at hw'
      rcases List.mem_append.mp hw' with h | h
      · exact hw w (by simp only [List.mem_cons, List.not_mem_nil, or_false] at h ⊢; rcases h with h | h | h | h <;> simp [h])
      · rcases List.mem_cons.mp h with h | h
        · exact hw w (by rw [h]; simp)
        · exact h)) rfl rfl rfl hd hR) hp rfl (by rw [List.length_map]; exact hn) hsz rfl (lv_room hcat) d hbud) K hh
theorem ok_callsu (C : qa_C xb Ai p s m args meth c cc nL own A0 R a0.2.2.2.1 a0.2.2.2.2 r) {pc index nP maxL fr lo : Nat} {cn owner : String} {k : qI} {f : List qV → qA → Option qR} {x y : MethodName} {bytes : ByteArray} {ret : Option FieldType} (hcon : qa_Con l y bytes maxL ret fr lo f)
    (hw : ∀ w ∈ [Cond.methodLink own index x, .sameMethod x.cls owner x.name x.desc, .selects cn x y, .instanceMethod y, .initialized y.cls, .code y bytes maxL ret], w ∈ qa_tb)
    (hyx : y = ⟨owner, x.name, x.desc⟩) (hd : owner ≠ "java/lang/invoke/MethodHandle" ∧ owner ≠ "java/lang/invoke/VarHandle" ∧ (parseMethodDescriptor x.desc).map (fun d => d.parameters.length) = some (nP - 1)) (hR : fr + 1 ≤ R.frames ∧ 8 + (maxL + 11) + lo ≤ R.locals)
    (d : decode cc pc = .ok (.invokevirtual index, 3)) (K : qa_OK p l e R s m args below meth c (qa_Q below D Ai a0 r A0 args s) D A0 Ai a0.2.2.1 nL a0.2.2.2.1 a0.2.2.2.2 r pcs (pc + 3) k) (hh : xb = true := by rfl) : qa_OK p l e R s m args below meth c (qa_Q below D Ai a0 r A0 args s) D A0 Ai a0.2.2.1 nL a0.2.2.2.1 a0.2.2.2.2 r pcs pc (q_calls cn f nP k) :=
  qa_callsg C hcon (fun hM hp hn hsz hcat hbud => vx_runU (Ts := qa_tb) (own := own) (C := cn) (owner := owner) (nL := nL) ⟨C.1, C.2.1, C.2.2.1, C.2.2.2.1, C.2.2.2.2.1⟩ hM (va_cwU (ws' := qa_tb) (nP - 1) C.2.2.2.2.1 (qa_goodin (fun w hw' => by
      unfold va_wsU at hw'
      rcases List.mem_append.mp hw' with h | h
      · exact hw w (by simp only [List.mem_cons, List.not_mem_nil, or_false] at h ⊢; rcases h with h | h | h | h | h <;> simp [h])
      · rcases List.mem_cons.mp h with h | h
        · exact hw w (by rw [h]; simp)
        · exact h)) rfl rfl rfl hyx hd hR) hp rfl (by rw [List.length_map]; exact hn) hsz rfl (lv_room hcat) d hbud) K hh
theorem qa_callvg (C : qa_C xb Ai p s m args meth c cc nL own A0 R a0.2.2.2.1 a0.2.2.2.2 r) {pc nP maxL fr lo : Nat} {ci : Nat} {rC : vw_C} {k : qI} {f : List qV → qA → Option qR} {y : MethodName} {bytes : ByteArray} {ret : Option FieldType} (hci : vwCl[ci]? = some rC) (h99 : ci < 99) (hcon : qa_Con l y bytes maxL ret fr lo f)
    (hrun : ∀ {A : Int → Nat} {a : qA} {H : Heap} {locs : List Loc} {kc ks : Nat} {LS : Array Slot} {b : Nat} {As : List qV} {rest : List Value} {r1 : qR} {av : List qV}, vx_Met l y (Cond.code y bytes maxL ret :: qa_tb) (qa_rm fr lo a r1) (va_Pc (.ref b :: As.map (qa_val A)) (qa_Pre D A a av H.size)) (qa_Post D A a r1 (qa_F A a H.size)) (qa_PostX D A a r1 (qa_F A a H.size)) (r1.2.2.2.2.1 - a.2.2.2.1) (r1.2.2.2.2.2 - a.2.2.2.2) (qa_F A a H.size) →
      va_K D vwCl [] s → PreV s H rC.1 b (va_Pc (.ref b :: As.map (qa_val A)) (qa_Pre D A a av H.size)) (As.map (qa_val A)) → As.length = nP - 1 → LS.size = nL → (rest.map fun v => v.category).sum ≤ 8 → kc + (r1.2.2.2.2.1 - a.2.2.2.1) ≤ R.cells ∧ ks + (r1.2.2.2.2.2 - a.2.2.2.2) ≤ R.slots →
      vx_Run p l e R s m args below meth c H locs kc ks (r1.2.2.2.2.1 - a.2.2.2.1) (r1.2.2.2.2.2 - a.2.2.2.2) (F0 m pc LS ((As.map (qa_val A)).reverse ++ .ref b :: rest)) rest (qa_Post D A a r1 (qa_F A a H.size) (Value.ref b :: As.map (qa_val A)).toArray) (qa_PostX D A a r1 (qa_F A a H.size)) (qa_F A a H.size))
    (K : qa_OK p l e R s m args below meth c (qa_Q below D Ai a0 r A0 args s) D A0 Ai a0.2.2.1 nL a0.2.2.2.1 a0.2.2.2.2 r pcs (pc + 3) k) (hh : xb = true := by rfl) : qa_OK p l e R s m args below meth c (qa_Q below D Ai a0 r A0 args s) D A0 Ai a0.2.2.1 nL a0.2.2.2.1 a0.2.2.2.2 r pcs pc (q_callv ci f nP k) := by
  intro ls st a o ho
  unfold q_callv at ho
  split at ho
  · rename_i v hv
    split at ho
    · rename_i h
      obtain ⟨h1, h2, h3⟩ := h
      have hle : ∀ (av : List qV) (a : qA) (r : qR), f av a = some r → qa_le a (.inr r) := fun av a r h => (hcon av a r h).1
      refine ⟨qa_lecall hle ho (fun ls st a o h => (K ls st a o h).1), fun g => ?_⟩
      intro A H locs kc ks LS hW hwf hls hst hn hA hS hL hc hs
      refine qa_called C ho K g hle ?_ hW hwf hls hst hn hA hS hL hc hs ?_
      · intro r1 A1 A' kE H1 locs1 kc1 ks1 LS1 q ce hf g1 ho2 hA' hW1 hwf1 hS1 hL1 hc1 hs1 hce hcv hcl
        refine qa_thrown C hh (ls := ls) (st := st) g1 ?_ hA' hW1 hwf1 hS1 hc1 hs1 hce hcv hcl
        rw [ho2] at g
        exact g
      · intro r1 hf hb
        obtain ⟨hl, hM⟩ := hcon _ _ _ hf
        have hfst := qa_first h3 hv
        have hdeep := qa_deep ho
        have hvb := hwf.2.1 v.2 (by rw [h2]; omega)
        have eb : qa_val A v = .ref (A v.2) := by rw [qa_eta h1, qa_v1, qa_rfr (by omega)]
        have hK9 : va_K D vwCl [] s := by
          obtain ⟨cA, tys, -, -, hK, -⟩ := hW
          exact hK.sub (tys' := []) [] rfl
        have hav : qa_okl a.2.2.1 (st.take nP).reverse := fun x hx => hst x (List.mem_of_mem_take (List.mem_reverse.mp hx))
        have hneg : ∀ v : Int, v < 0 → A v = Ai v := fun x hx => hA x (by omega)
        have hpre := qa_pre C hW hwf hav hneg hS
        rw [qa_stk (st := st) (nP := nP)]
        have hM1 := hM D A H.size
        rw [hfst, List.map_cons, eb] at hM1 hpre ⊢
        rw [List.reverse_cons, List.append_assoc]
        exact hrun hM1 hK9 ⟨qa_blind, qa_recv hW hwf h2 h99 hci, hpre⟩ (by rw [List.length_reverse, List.length_take]; omega) hL.1 (qa_catd A _ hdeep.2) (qa_rm_le (fr := fr) (lo := lo) C hl hb hc hs)
    · cases ho
  · cases ho
theorem ok_callup (C : qa_C xb Ai p s m args meth c cc nL own A0 R a0.2.2.2.1 a0.2.2.2.2 r) {pc index nP maxL fr lo ci : Nat} {rC : vw_C} {k : qI} {f : List qV → qA → Option qR} {y : MethodName} {bytes : ByteArray} {ret : Option FieldType} (hci : vwCl[ci]? = some rC) (h99 : ci < 99) (hcon : qa_Con l y bytes maxL ret fr lo f)
    (hw : ∀ w ∈ [Cond.methodLink own index y, .sameMethod y.cls y.cls y.name y.desc, .instanceMethod y, .initialized y.cls, .code y bytes maxL ret], w ∈ qa_tb)
    (hsel : (Cond.selects rC.1 y y).before args s = true) (hyx : y = ⟨y.cls, y.name, y.desc⟩) (hd : y.cls ≠ "java/lang/invoke/MethodHandle" ∧ y.cls ≠ "java/lang/invoke/VarHandle" ∧ (parseMethodDescriptor y.desc).map (fun d => d.parameters.length) = some (nP - 1)) (hR : fr + 1 ≤ R.frames ∧ 8 + (maxL + 11) + lo ≤ R.locals)
    (d : decode cc pc = .ok (.invokevirtual index, 3)) (K : qa_OK p l e R s m args below meth c (qa_Q below D Ai a0 r A0 args s) D A0 Ai a0.2.2.1 nL a0.2.2.2.1 a0.2.2.2.2 r pcs (pc + 3) k) (hh : xb = true := by rfl) : qa_OK p l e R s m args below meth c (qa_Q below D Ai a0 r A0 args s) D A0 Ai a0.2.2.1 nL a0.2.2.2.1 a0.2.2.2.2 r pcs pc (q_callv ci f nP k) :=
  qa_callvg C hci h99 hcon (fun hM _ hp hn hsz hcat hbud => vx_runU (Ts := .selects rC.1 y y :: qa_tb) (own := own) (C := rC.1) (owner := y.cls) (nL := nL) ⟨C.1, C.2.1, C.2.2.1, C.2.2.2.1, fun w hw' => (List.mem_cons.mp hw').elim (fun e => e ▸ hsel) (C.2.2.2.2.1 w)⟩ hM (va_cwU (ws' := qa_tb) (nP - 1) (fun w hw' => (List.mem_cons.mp hw').elim (fun e => e ▸ hsel) (C.2.2.2.2.1 w)) (fun w hw' => by
      have key : ∀ w, w ∈ qa_tb → w ∈ Cond.selects rC.1 y y :: qa_tb ∧ ((w.onTables && w.keeps) = true ∨ ∃ ty, w = .arrayClass ty) := fun w h => ⟨List.mem_cons_of_mem _ h, good_of_word (List.mem_filter.mp h).2⟩
      unfold va_wsU at hw'
      rcases List.mem_append.mp hw' with h | h
      · simp only [List.mem_cons, List.not_mem_nil, or_false] at h
        rcases h with h | h | h | h | h
        · exact key w (hw w (by simp [h]))
        · exact key w (hw w (by simp [h]))
        · exact ⟨by rw [h]; exact List.mem_cons_self, Or.inl (by rw [h]; rfl)⟩
        · exact key w (hw w (by simp [h]))
        · exact key w (hw w (by simp [h]))
      · rcases List.mem_cons.mp h with h | h
        · exact key w (hw w (by rw [h]; simp))
        · exact key w h) rfl rfl rfl hyx hd hR) hp rfl (by rw [List.length_map]; exact hn) hsz rfl (lv_room hcat) d hbud) K hh
theorem qa_selp {Cn : String} {y : MethodName} {n : Nat} (hy : y.cls ≠ "java/lang/invoke/MethodHandle" ∧ y.cls ≠ "java/lang/invoke/VarHandle") (hins : (Cond.instantiable Cn n).before args s = true) (hpriv : (Cond.privateMethod y).before args s = true) (hinst : (Cond.instanceMethod y).before args s = true) (hsame : (Cond.sameMethod y.cls y.cls y.name y.desc).before args s = true) : (Cond.selects Cn y y).before args s = true := by
  obtain ⟨c, k, hc, hk, -, hniab, -, -⟩ := Cond.instantiable_spec hins
  obtain ⟨mk, methM, hnamed, hmethM, -, -⟩ := Cond.instanceMethod_spec hinst
  have hfound : s.methodFound? y.cls y.name y.desc = some mk := State.methodFound?_of_named hnamed hy
  obtain ⟨cn, ck, r1, hcn, hck, hni, hf, hn1⟩ := Cond.sameMethod_found hsame
  have hcls : mk.cls = cn := Option.some.inj ((findClass_of_methodNamed hnamed).symm.trans hcn)
  have hsel : selectMethod {} s.vm c mk = .method mk := selectMethod_private hmethM (Cond.privateMethod_at hpriv mk methM hnamed hmethM)
  simp only [Cond.before, Cond.holds, Cond.value, hc, hfound, hnamed, hsel, hcls, hck]
  simp; exact hni
theorem ok_callsup (C : qa_C xb Ai p s m args meth c cc nL own A0 R a0.2.2.2.1 a0.2.2.2.2 r) {pc index nP maxL fr lo ci : Nat} {rC : vw_C} {k : qI} {f : List qV → qA → Option qR} {y : MethodName} {bytes : ByteArray} {ret : Option FieldType} (hci : vwCl[ci]? = some rC) (h99 : ci < 99) (hcon : qa_Con l y bytes maxL ret fr lo f)
    (hw : ∀ w ∈ [Cond.methodLink own index y, .sameMethod y.cls y.cls y.name y.desc, .superclass own y.cls, .instanceMethod y, .initialized y.cls, .code y bytes maxL ret], w ∈ qa_tb)
    (hd : y.name ≠ "<init>" ∧ (parseMethodDescriptor y.desc).map (fun d => d.parameters.length) = some (nP - 1)) (hR : fr + 1 ≤ R.frames ∧ 8 + (maxL + 11) + lo ≤ R.locals)
    (d : decode cc pc = .ok (.invokespecial index, 3)) (K : qa_OK p l e R s m args below meth c (qa_Q below D Ai a0 r A0 args s) D A0 Ai a0.2.2.1 nL a0.2.2.2.1 a0.2.2.2.2 r pcs (pc + 3) k) (hh : xb = true := by rfl) : qa_OK p l e R s m args below meth c (qa_Q below D Ai a0 r A0 args s) D A0 Ai a0.2.2.1 nL a0.2.2.2.1 a0.2.2.2.2 r pcs pc (q_callv ci f nP k) :=
  qa_callvg C hci h99 hcon (fun hM hK9 hp hn hsz hcat hbud => vx_runSU (Ts := qa_tb) (own := own) (C := rC.1) (cC := D.1 ci) (nL := nL) (hK9.1 ci rC hci).2 ⟨C.1, C.2.1, C.2.2.1, C.2.2.2.1, C.2.2.2.2.1⟩ hM (va_cwSU (ws' := qa_tb) (nP - 1) C.2.2.2.2.1 (qa_goodin (fun w hw' => by
      unfold va_wsSU at hw'
      rcases List.mem_append.mp hw' with h | h
      · exact hw w (by simp only [List.mem_cons, List.not_mem_nil, or_false] at h ⊢; rcases h with h | h | h | h | h <;> simp [h])
      · rcases List.mem_cons.mp h with h | h
        · exact hw w (by rw [h]; simp)
        · exact h)) rfl rfl rfl hd hR) hp rfl (by rw [List.length_map]; exact hn) hsz rfl (lv_room hcat) d hbud) K hh
end QS
