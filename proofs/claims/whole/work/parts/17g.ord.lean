theorem qa_steps_up {tb : Tables} {e : Env} {below : List Frame} {g : JFrame} {s t : State} (h : Steps tb e (.java g :: below) s t) : Steps tb e below s t := by
  obtain ⟨n, h1, h2⟩ := h
  exact ⟨n, h1, fun k hk => Within.weaken (mid := [.java g]) (h2 k hk)⟩
theorem qa_backRaw {l : Launch} {R : Room} {p : Program} {e : Env} {below : List Frame} {s : State} {sargs : Array Value} {y : MethodName} {len W0 : Nat} {bytes : ByteArray} {maxL : Nat} {ret : Option FieldType} {Pc : Array Value → State → Prop} {Qc : Array Value → State → Outcome → State → Prop}
    (hplain : plainName y.cls = true) (hcode : ∀ (a : Array Value) (U : State), s.WarmedH U.vm → (Cond.code y bytes maxL ret).before a U = true) (hframes : 1 ≤ R.frames) (hlocals : W0 + (maxL + 11) ≤ R.locals)
    (hwalk : ∀ (U : State) (g : JFrame) (mk : MethodId) (a : Array Value) (meth : Method) (c : Code), s.WarmedH U.vm → U.methodNamed? y = some mk → meth.sig.returnType = ret → c.code = bytes → meth.locks = false → Pc a U →
      W p l e rm0 (U.calling g mk a) mk a (.java g :: below) meth c (U.calling g mk a).heap [] 0 0 (MQ (.java g :: below) Qc a (U.calling g mk a) 0 0 (fun _ => False)) (entryFrame mk a maxL))
    (hret : ∀ a st o t, Qc a st o t → ∃ v, o = .returned v) :
    Back l R p e below s sargs y len W0 (PreOf R 0 0 Pc) (PostOf Qc 0 0 (fun _ => False)) := by
  intro m meth c A g ig mk a X hg hsize hdg hW hn hp
  obtain ⟨U, Ls, k0, s0⟩ := A
  obtain ⟨h4, h5, hPc⟩ := hp
  dsimp only [Pt.U, Pt.locs, Pt.cells, Pt.slots] at h4 h5 hPc X hn ⊢
  obtain ⟨methY, cY, hmY, hcY, hbY, hlY, hrY, hkY, -, -⟩ := Cond.code_spec hn (hcode a U X.warmed)
  have h : At U g.method c below := by rw [hg]; exact X.here
  obtain ⟨g₀, hg0⟩ := Option.isSome_iff_exists.mp h.top
  obtain ⟨rr, hrr⟩ := State.topJava?_eq_some.mp hg0
  have htail : U.frames.tail = below := X.tail
  have hfr : (U.calling g mk a).frames = .invoking mk a :: .java g :: below := by rw [State.frames_calling h.top, htail]
  have hroom : (U.calling g mk a).hasRoom e.platform rm0 = true := X.room_calling (g := g) (R' := rm0) hsize hmY hcY hframes (by rw [hlY]; show _ + 0 ≤ _; omega) h4 h5
  have hcd : (U.calling g mk a).code? g.method = some c := by
    have := h.code
    rw [State.code?_eq] at this ⊢
    simpa [State.calling, State.pushFrame, State.setFrames] using this
  have hhears : (U.calling g mk a).hears mk (.java g :: below) = true := by simp [State.hears, hcd, hdg, Except.toOption]
  have hcur := State.cur_lt_of_frames hfr
  obtain ⟨t0, ht0, -⟩ := State.frames_cons hfr
  have hplainM : ∀ (fs : List Frame), ((U.calling g mk a).setFrames fs).plainMethod mk := fun fs => by
    refine State.plainMethod.of_name ?_
    intro k hk
    obtain ⟨k', hk', hnm⟩ := className_of_methodNamed hn
    cases (show U.vm.classes[mk.cls]? = some k from hk).symm.trans hk'
    rw [hnm]; exact hplain
  have hS : Stand p l e rm0 (U.calling g mk a) mk a (.java g :: below) methY cY ((U.calling g mk a).setFrames (.java (entryFrame mk a maxL) :: .java g :: below)) [] 0 0 := by
    have hf1 : ((U.calling g mk a).setFrames (.java (entryFrame mk a maxL) :: .java g :: below)).frames = .java (entryFrame mk a maxL) :: .java g :: below := State.frames_setFrames _ hcur
    refine ⟨X.admits, X.cas, X.clock, hfr, hroom, hhears, hmY, hcY, ⟨by rw [State.topJava?_of_frames hf1]; rfl, ⟨[], by rw [hf1]; rfl⟩, h.running, by simpa [State.calling] using h.runnable, by simpa [State.calling] using h.alone, ?_, hplainM _⟩, by rw [hf1]; rfl, State.WarmedH.refl _, by rw [State.stackLimits_setFrames], by rw [State.stackBytes_setFrames], (State.sameButNew.refl _ ht0).setFrames _ hcur⟩
    rw [State.code?_eq]
    show (((U.calling g mk a).vm.method? mk).bind _) = _
    rw [show (U.calling g mk a).vm.method? mk = some methY from hmY]
    exact hcY
  obtain ⟨t, hst, o, hrun, hend, hq, L, hFE, hL⟩ := hwalk U g mk a methY cY X.warmed hn hrY hbY hkY hPc ((U.calling g mk a).setFrames (.java (entryFrame mk a maxL) :: .java g :: below)) rfl hS
  obtain ⟨v, rfl⟩ := hret _ _ _ _ hq
  have hL0 : L = [] := List.eq_nil_iff_forall_not_mem.mpr fun q hq' => hL q hq'
  subst hL0
  obtain ⟨-, hWt, e2, q2, q3, q4, q5, q6⟩ := id hFE
  have e3 : t = ({ (U.calling g mk a).setFrames t.frames with heap := t.heap, slotsUsed := t.slotsUsed } : State).setVm t.vm := by
    have : t = ({ t with vm := (U.calling g mk a).vm } : State).setVm t.vm := rfl
    rw [e2] at this
    exact this
  obtain ⟨c₂, i₂, len₂, hc₂, hd₂, hf₂⟩ := hend
  have hW' : U.WarmedH t.vm := hWt
  have hcc : c₂ = c := by
    have h1 : t.code? g.method = U.code? g.method := by rw [State.code?_eq, State.code?_eq, hW'.alike.method?]
    exact Option.some.inj (hc₂.symm.trans (h1.trans h.code))
  subst hcc
  have hlen : len₂ = len := by rw [hdg] at hd₂; cases hd₂; rfl
  subst hlen
  have ht : t = (({ U with heap := t.heap, slotsUsed := t.slotsUsed } : State).setVm t.vm).setTop { g with pc := g.pc + len₂, stack := v.toList ++ g.stack } := by
    have hr' : (({ U with heap := t.heap, slotsUsed := t.slotsUsed } : State).setVm t.vm).frames = .java g₀ :: rr := hrr
    refine e3.trans ?_
    rw [hrr] at htail
    rw [hf₂, State.calling_eq h.top, State.setFrames_setFrames, State.setTop_of_frames _ hr', ← htail]
    rfl
  have hsame : U.sameButNew ({ U with heap := t.heap, slotsUsed := t.slotsUsed } : State) [] 0 0 := by
    refine ⟨?_, q2, q3, q4, q5, q6⟩
    obtain ⟨t1, ht1, -⟩ := State.frames_cons hrr
    show ({ U with heap := t.heap, slotsUsed := t.slotsUsed } : State) = { U.setFrames U.frames with heap := t.heap, slotsUsed := t.slotsUsed }
    rw [State.setFrames_self ht1]
  subst hg
  refine ⟨v, ⟨(({ U with heap := t.heap, slotsUsed := t.slotsUsed } : State).setVm t.vm), Ls ++ [], k0 + 0, s0 + 0⟩,
    ⟨X.admits, X.cas, X.clock, X.frames, X.room, X.hears, X.method, X.code, (X.here.setHeapUsed t.heap t.slotsUsed).setVm hW'.alike, X.tail, State.WarmedH.trans X.warmed hW', X.limits, X.bytes, X.same.trans (hsame.setVm s.vm)⟩,
    ⟨g, mk, t, [], rfl, rfl, hq, rfl, fun q hq' => absurd hq' (List.not_mem_nil), rfl, rfl⟩, ?_⟩
  have hnf : e.platform.stackFull (((U.setTop g).threads[(U.setTop g).cur]?).getD { frames := [] }) (U.setTop g).frames cY.maxLocals = false := X.notFull hsize hframes (by rw [hlY]; omega)
  rw [doInvoke_enter h.top [] hmY hcY hkY hnf]
  have hstep := qa_steps_up hst
  have e5 : ((U.setTop g).pushFrame (.java (entryFrame mk a cY.maxLocals))).setTop (entryFrame mk a cY.maxLocals) = ((U.calling g mk a).setFrames (.java (entryFrame mk a maxL) :: .java g :: below)).setTop (entryFrame mk a maxL) := by
    rw [hlY, State.calling_eq h.top, State.setFrames_setFrames]
    have e6 : (U.setTop g).pushFrame (.java (entryFrame mk a maxL)) = U.setFrames (.java (entryFrame mk a maxL) :: .java g :: below) := by
      rw [State.pushFrame, State.frames_setTop' g h.top, State.setTop_of_frames _ hrr, State.setFrames_setFrames, htail]
    rw [e6]
  rw [e5]
  show Steps p.tables e below _ ((({ U with heap := t.heap, slotsUsed := t.slotsUsed } : State).setVm t.vm).setTop { g with pc := g.pc + len₂, stack := v.toList ++ g.stack })
  rw [← ht]
  exact hstep
def qa_yO : MethodName := ⟨"java/lang/Enum", "ordinal", "()I"⟩
def qa_PO (o : Nat) (i : Int32) : Array Value → State → Prop := fun a U => a = #[.ref o] ∧ va_OF "java/lang/Enum" "ordinal" "I" (.int i) o (fun _ => False) U U.heap
def qa_QO (i : Int32) : Array Value → State → Outcome → State → Prop := fun _ st o t => o = .returned (some (.int i)) ∧ t.heap = st.heap
theorem qa_backO {l : Launch} {R : Room} {p : Program} {e : Env} {below : List Frame} {s : State} {sargs : Array Value} (hx : p.tables.exec = Jvm.exec) (hw : ∀ w ∈ qa_tb, w.before sargs s = true) (hf : 1 ≤ R.frames) (hl : 8 + (1 + 11) ≤ R.locals) (o : Nat) (i : Int32)
    (hc : Cond.code qa_yO cJx29ce0_ordinal_8abf5 1 (some .int) ∈ qa_tb) (hfl : Cond.fieldLink "java/lang/Enum" 7 "java/lang/Enum" "ordinal" "I" ∈ qa_tb) :
    Back l R p e below s sargs qa_yO 3 8 (PreOf R 0 0 (qa_PO o i)) (PostOf (qa_QO i) 0 0 (fun _ => False)) := by
  have good : ∀ w ∈ qa_tb, ∀ (a' : Array Value) (U : State), s.WarmedH U.vm → w.before a' U = true := fun w h a' U hW => word_at hW (good_of_word (List.mem_filter.mp h).2) (hw w h)
  refine qa_backRaw (bytes := cJx29ce0_ordinal_8abf5) (maxL := 1) (ret := some .int) (by decide +kernel) (fun a U hW => good _ hc a U hW) hf hl ?_ (fun a st o t h => ⟨_, h.1⟩)
  intro U g mk a meth c hW hn hr hb hk hP
  obtain ⟨rfl, hF⟩ := hP
  have hF' : va_OF "java/lang/Enum" "ordinal" "I" (.int i) o (fun _ => False) (U.calling g mk #[.ref o]) (U.calling g mk #[.ref o]).heap := va_OF.moved (u := U) (U := U.calling g mk #[.ref o]) (Vm.Alike.refl _) hF
  have hS : va_S (fun _ => False) (U.calling g mk #[.ref o]).heap (U.calling g mk #[.ref o]).heap [] := va_S.rf
  have hown : (U.calling g mk #[.ref o]).vm.findClass "java/lang/Enum" = some mk.cls := findClass_of_methodNamed (x := qa_yO) hn
  have hlink : (Cond.fieldLink "java/lang/Enum" 7 "java/lang/Enum" "ordinal" "I").before #[.ref o] (U.calling g mk #[.ref o]) = true := good _ hfl _ _ hW
  show W p l e rm0 (U.calling g mk #[.ref o]) mk #[.ref o] (.java g :: below) meth c (U.calling g mk #[.ref o]).heap [] 0 0 _ (entryFrame mk ([Value.ref o]).toArray 1)
  rw [lg_entry_eq]
  have hl := lv_entry [Value.ref o] (n := 1) (Nat.le_refl 1)
  generalize (lg_sl [Value.ref o] ++ List.replicate (1 - (lg_sl [Value.ref o]).length) Slot.unset).toArray = LS at hl ⊢
  have h0 : LS[0]? = some (.val (.ref o)) := hl.2.2 (0, .ref o) (by simp [lv_args])
  exact lv_aload_n hx hb dJx29ce0_ordinal_8abf5_0 rfl h0 (vk_getf hx hb hF' hS hown hlink (fun _ h => h) dJx29ce0_ordinal_8abf5_1 (W.zret hx hb hr rfl (fun t h1 h2 => ⟨rfl, h1⟩) (fun q hq => absurd hq (List.not_mem_nil)) dJx29ce0_ordinal_8abf5_4 hk))
def q_ord (k : qI) : qI := fun ls st a => match st with
  | o :: r => if o.1 = 1 ∧ -29 ≤ o.2 ∧ o.2 ≤ -20 ∧ r.length ≤ 4 then k ls ((0, -20 - o.2) :: r) a else none
  | _ => none
section QS
variable {p : Program} {l : Launch} {e : Env} {R : Room} {s : State} {m : MethodId} {args : Array Value} {below : List Frame} {meth : Method} {c : Code} {Q : State → Prop} {cc : ByteArray} {nL : Nat} {own : String} {D : va_G} {A0 : Nat → Prop} {Ai : Int → Nat} {xb : Bool} {n0 c0 s0 : Nat} {r : qR} {pcs : Nat → Nat} {a0 : qA}
theorem ok_ord (C : qa_C xb Ai p s m args meth c cc nL own A0 R c0 s0 r) {pc index : Nat} {k : qI} (hw : ∀ w ∈ [Cond.methodLink own index ⟨"PromiseLog$Verb", "ordinal", "()I"⟩, .sameMethod "PromiseLog$Verb" "java/lang/Enum" "ordinal" "()I", .selects "PromiseLog$Verb" ⟨"PromiseLog$Verb", "ordinal", "()I"⟩ qa_yO, .instanceMethod qa_yO, .code qa_yO cJx29ce0_ordinal_8abf5 1 (some .int), .fieldLink "java/lang/Enum" 7 "java/lang/Enum" "ordinal" "I"], w ∈ qa_tb)
    (hR : 1 ≤ R.frames ∧ 20 ≤ R.locals) (d : decode cc pc = .ok (.invokevirtual index, 3)) (K : qa_OK p l e R s m args below meth c Q D A0 Ai n0 nL c0 s0 r pcs (pc + 3) k) : qa_OK p l e R s m args below meth c Q D A0 Ai n0 nL c0 s0 r pcs pc (q_ord k) := by
  intro ls st a ot ho
  unfold q_ord at ho
  split at ho
  · rename_i ob rs
    split at ho
    · rename_i h
      obtain ⟨h1, h2, h3, h4⟩ := h
      refine ⟨(K _ _ _ _ ho).1, fun gg => ?_⟩
      have hb := qa_bud (K _ _ _ _ ho).1 gg
      have r1 : c0 + R.cells = r.2.2.2.2.1 := C.2.2.2.2.2.2.2.1
      have r2 : s0 + R.slots = r.2.2.2.2.2 := C.2.2.2.2.2.2.2.2.1
      intro A H locs kc ks LS hW hwf hls hst hn hA hS hL hc hs
      have b1 : kc ≤ R.cells := by have := hb.1; omega
      have b2 : ks ≤ R.slots := by have := hb.2; omega
      have hAi : A ob.2 = Ai ob.2 := hA _ (by omega)
      have kk := (K _ _ _ _ ho).2 gg A H locs kc ks LS hW hwf hls (qa_okl_cons (qa_oki ⟨by omega, by omega⟩) (qa_okl_tl hst)) hn hA hS hL hc hs
      rw [List.map_cons, qa_v0] at kk
      rw [List.map_cons, qa_eta h1, qa_v1, qa_rfr (by omega), hAi]
      have hS3 : qa_S3 Ai A0 s s.heap := C.2.2.2.2.2.2.2.2.2.2.2.2.2.2.1
      have hm : (ob.2, "PromiseLog$Verb") ∈ qa_SC ∧ (ob.2, "java/lang/Enum", "ordinal", "I", ((0, -20 - ob.2) : qV)) ∈ qa_SO := by
        have hall : ∀ i : Fin 10, ((-20 - (i.val : Int)), "PromiseLog$Verb") ∈ qa_SC ∧ ((-20 - (i.val : Int)), "java/lang/Enum", "ordinal", "I", ((0, -20 - (-20 - (i.val : Int))) : qV)) ∈ qa_SO := by decide +kernel
        have := hall ⟨(-20 - ob.2).toNat, by omega⟩
        have e : (-20 - (((-20 - ob.2).toNat : Nat) : Int)) = ob.2 := by omega
        dsimp only at this
        rw [e] at this
        exact this
      have hO := (hS3.2.2.2 _ hm.1).kept hS.2.1
      have hF := (hS3.2.2.1 _ hm.2).kept hS.2.1
      dsimp only at hO hF
      rw [qa_v0] at hF
      obtain ⟨cell, g1, g2, g3, -⟩ := hO
      intro T hT X
      have hK := qa_backO (l := l) (R := R) (p := p) (e := e) (below := below) C.1 C.2.2.2.2.1 hR.1 hR.2 (Ai ob.2) (Int32.ofInt (-20 - ob.2)) (hw _ (by simp)) (hw _ (by simp))
      have hdecl : va_Decl s ⟨"java/lang/Enum", "ordinal", "()I"⟩ := va_Decl.of (C.2.2.2.2.1 _ (hw (.instanceMethod qa_yO) (by simp))) (C.2.2.2.2.1 _ (hw (.code qa_yO cJx29ce0_ordinal_8abf5 1 (some .int)) (by simp)))
      obtain ⟨v, vm₁, ⟨U', l2, c2, s2⟩, hW₁, X', ⟨g', mk, t, L, e1, e2, ⟨hq1, hq2⟩, h8, hL8, h9, h10⟩, st⟩ := va_callVU X C.1 (own := own) (C := "PromiseLog$Verb") (owner := "java/lang/Enum") (index := index) (x := ⟨"PromiseLog$Verb", "ordinal", "()I"⟩) (y := qa_yO) (bytes := cJx29ce0_ordinal_8abf5) (maxL := 1) (ret := some .int) C.2.2.2.1
        (C.2.2.2.2.1 _ (hw _ (by simp))) (C.2.2.2.2.1 _ (hw _ (by simp))) hdecl ⟨by decide, by decide⟩ (C.2.2.2.2.1 _ (hw _ (by simp))) (C.2.2.2.2.1 _ (hw _ (by simp))) (C.2.2.2.2.1 _ (hw _ (by simp))) hK (b := Ai ob.2) (cellB := cell) (by rw [hT]; exact g1) g2 g3
        (g := F0 m pc LS (.ref (Ai ob.2) :: rs.map (qa_val A))) rfl (hL.1.trans C.2.2.1.symm) (argsL := []) (rest := rs.map (qa_val A)) (fun sig h => by
          have : (parseMethodDescriptor "()I").map (fun d => d.parameters.length) = some 0 := by decide +kernel
          rw [show parseMethodDescriptor "()I" = some sig from h] at this
          exact (Option.some.inj this).symm) rfl (lv_room (qa_cats A rs h4)) (by rw [C.2.1]; exact d)
        (fun vm₁ hW₁ => ⟨b1, b2, rfl, by
          have hF2 := hF.narrow (B := fun _ => False) (fun q hq => hq.elim)
          have hF3 := va_OF.moved (u := s) (U := T.setVm vm₁) hW₁.alike hF2
          show va_OF _ _ _ _ _ _ (T.setVm vm₁) (T.setVm vm₁).heap
          rw [show (T.setVm vm₁).heap = H from hT]
          exact hF3⟩)
      cases hq1
      have hL0 : L = [] := List.eq_nil_iff_forall_not_mem.mpr fun q hq' => hL8 q hq'
      subst hL0
      dsimp only [Pt.U, Pt.locs, Pt.cells, Pt.slots] at X' e1 e2 h8 h9 h10 st
      subst h8; subst h9; subst h10
      rw [List.append_nil] at X'
      obtain ⟨t2, a1, b1⟩ := kk U' (by rw [e1, hq2]; exact hT) X'
      exact ⟨t2, st t2 a1, b1⟩
    · cases ho
  · cases ho
end QS
