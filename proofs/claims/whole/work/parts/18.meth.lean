theorem qa_lvargs (A : Int → Nat) : ∀ (av : List qV) (j : Nat), (∀ v ∈ av, v.1 < 2) → ∀ (i : Nat) (v : qV), av[i]? = some v → (j + i, qa_val A v) ∈ lv_args j (av.map (qa_val A)) := by
  intro av
  induction av with
  | nil => intro j _ i v h; simp at h
  | cons w t ih =>
    intro j hc i v h
    rw [List.map_cons]
    unfold lv_args
    cases i with
    | zero =>
      simp only [List.getElem?_cons_zero, Option.some.injEq] at h
      subst h
      exact List.mem_cons_self
    | succ i =>
      rw [List.getElem?_cons_succ] at h
      have h1 := qa_cat1 A (hc w List.mem_cons_self)
      rw [if_neg (by omega)]
      have := ih (j + 1) (fun v hv => hc v (List.mem_cons_of_mem _ hv)) i v h
      rw [show j + (i + 1) = j + 1 + i by omega]
      exact List.mem_cons_of_mem _ this
theorem qa_sl (A : Int → Nat) : ∀ (av : List qV), (∀ v ∈ av, v.1 < 2) → (lg_sl (av.map (qa_val A))).length = av.length := by
  intro av
  induction av with
  | nil => intro _; rfl
  | cons w t ih =>
    intro hc
    have h1 := qa_cat1 A (hc w List.mem_cons_self)
    have := ih (fun v hv => hc v (List.mem_cons_of_mem _ hv))
    unfold lg_sl at this ⊢
    rw [List.map_cons, List.flatMap_cons, List.length_append, this, if_neg (by omega), List.length_cons]
    simp
    omega
section QM
variable {l : Launch}
theorem qa_core {p : Program} {e : Env} {s : State} {m : MethodId} {below : List Frame} {meth : Method} {c : Code} {D : va_G} {A : Int → Nat} {a0 : qA} {r : qR} {sz : Nat} {R : Room} {Q : State → Prop} {P : qP} {pcs : Nat → Nat} {maxL N : Nat} {av : List qV} (hp0 : pcs 0 = 0)
    (hOK : ∀ (j : Nat) (f : qI), P[j]? = some f → qa_OK p l e R s m ((av.map (qa_val A)).toArray) below meth c Q D (qa_F A a0 sz) A a0.2.2.1 maxL a0.2.2.2.1 a0.2.2.2.2 r pcs (pcs j) f)
    (hN : qa_run P N 0 (av ++ List.replicate (maxL - av.length) (9, 0)) [] a0 = some r) (l4 : av.length ≤ maxL) (l5 : ∀ v ∈ av, v.1 < 2)
    (hW : qa_W D s (fun _ => True) A a0 s.heap) (hwf : qa_wf a0) (hav : qa_okl a0.2.2.1 av) :
    W p l e R s m ((av.map (qa_val A)).toArray) below meth c s.heap [] 0 0 Q (entryFrame m ((av.map (qa_val A)).toArray) maxL) := by
  obtain ⟨cA, tys, hP, hD, hK, hT⟩ := hW
  have run_le : ∀ (n j : Nat) (ls st : List qV) (a : qA) (r : qR), qa_run P n j ls st a = some r → qa_le a (.inr r) := by
    intro n
    induction n with
    | zero => intro j ls st a r h; cases h
    | succ n ih =>
      intro j ls st a r' h
      simp only [qa_run] at h
      cases hf : P[j]? with
      | none => rw [hf] at h; cases h
      | some f =>
        rw [hf] at h
        dsimp only at h
        cases ho : f ls st a with
        | none => rw [ho] at h; cases h
        | some o =>
          rw [ho] at h
          have h1 := (hOK j f hf ls st a o ho).1
          cases o with
          | inl q =>
            have h2 := ih _ _ _ _ _ h
            exact ⟨Nat.le_trans h1.1 h2.1, Nat.le_trans h1.2.1 h2.2.1, Nat.le_trans h1.2.2 h2.2.2⟩
          | inr q =>
            cases h
            exact h1
  have run_at : ∀ (n j : Nat) (ls st : List qV) (a : qA), qa_run P n j ls st a = some r → qa_At p l e R s m ((av.map (qa_val A)).toArray) below meth c Q D (qa_F A a0 sz) A a0.2.2.1 maxL a0.2.2.2.1 a0.2.2.2.2 (pcs j) ls st a := by
    intro n
    induction n with
    | zero => intro j ls st a h; cases h
    | succ n ih =>
      intro j ls st a h
      simp only [qa_run] at h
      cases hf : P[j]? with
      | none => rw [hf] at h; cases h
      | some f =>
        rw [hf] at h
        dsimp only at h
        cases ho : f ls st a with
        | none => rw [ho] at h; cases h
        | some o =>
          rw [ho] at h
          have h1 := (hOK j f hf ls st a o ho).2
          cases o with
          | inl q =>
            have h2 := run_le _ _ _ _ _ _ h
            exact h1 ⟨h2.2.1, h2.2.2, ih _ _ _ _ h⟩
          | inr q =>
            cases h
            exact h1 rfl
  have hlen : (lg_sl (av.map (qa_val A))).length ≤ maxL := by rw [qa_sl A av l5]; exact l4
  have hl := lv_entry (av.map (qa_val A)) (n := maxL) hlen
  rw [lg_entry_eq]
  generalize (lg_sl (av.map (qa_val A)) ++ List.replicate (maxL - (lg_sl (av.map (qa_val A))).length) Slot.unset).toArray = LS at hl ⊢
  have hL : lv_has LS maxL (qa_lv A (av ++ List.replicate (maxL - av.length) (9, 0))) := by
    refine ⟨hl.1, hl.2.1, fun q hq => ?_⟩
    obtain ⟨v, hv1, hv2, hv3⟩ := qa_lv_mem hq
    have hlt : q.1 < av.length := by
      rcases Nat.lt_or_ge q.1 av.length with h | h
      · exact h
      · rw [List.getElem?_append_right h, List.getElem?_replicate] at hv1
        split at hv1
        · cases hv1; exact absurd hv2 (by decide)
        · cases hv1
    rw [List.getElem?_append_left hlt] at hv1
    have := qa_lvargs A av 0 l5 q.1 v hv1
    rw [Nat.zero_add, ← hv3] at this
    exact hl.2.2 q this
  have hD' : va_D (qa_F A a0 sz) (qa_ws A cA a0) := by
    refine ⟨hD.1, fun k q hq => ?_⟩
    have hk : k < a0.2.2.1 := by
      have := (List.getElem?_eq_some_iff.mp hq).1
      unfold qa_ws at this
      simpa using this
    have := qa_ws_get (A := A) (cA := cA) (a := a0) (k := (k : Int)) (by omega) (by omega)
    rw [Int.toNat_natCast, hq] at this
    cases this
    exact Or.inl ⟨(k : Int), by omega, by omega, rfl⟩
  have := run_at N 0 _ _ _ hN A s.heap [] 0 0 LS ⟨cA, tys, hP, hD', hK, hT⟩ hwf (by
    intro v hv
    rcases List.mem_append.mp hv with h | h
    · exact hav v h
    · rw [(List.mem_replicate.mp h).2]
      exact ⟨fun h => by rcases h with h | h <;> exact absurd h (by decide), fun h => absurd h (by decide)⟩) (fun v hv => nomatch hv) (Nat.le_refl _) (fun _ _ => rfl) va_S.rf hL rfl rfl
  rw [hp0] at this
  exact this
theorem qa_method {y : MethodName} {bytes : ByteArray} {maxL fr lo : Nat} {ret : Option FieldType} {P : qP} {pcs : Nat → Nat} (hy : plainName y.cls = true) (hp0 : pcs 0 = 0)
    (body : ∀ {p : Program} {e : Env} {s : State} {m : MethodId} {args : Array Value} {below : List Frame} {meth : Method} {c : Code} {D : va_G} {A0 : Nat → Prop} {Ai : Int → Nat} {a0 : qA} {r : qR}, qa_C true Ai p s m args meth c bytes maxL y.cls A0 (qa_rm fr lo a0 r) a0.2.2.2.1 a0.2.2.2.2 r → meth.sig.returnType = ret → meth.name = y.name →
      ∀ (j : Nat) (f : qI), P[j]? = some f → qa_OK p l e (qa_rm fr lo a0 r) s m args below meth c (qa_Q below D Ai a0 r A0 args s) D A0 Ai a0.2.2.1 maxL a0.2.2.2.1 a0.2.2.2.2 r pcs (pcs j) f) : qa_Con l y bytes maxL ret fr lo (qa_fn P maxL) := by
  intro av a0 r hr
  unfold qa_fn at hr
  split at hr
  · rename_i r' hev
    split at hr
    · rename_i hle
      have e9 : r' = r := Option.some.inj hr
      rw [e9] at hev hle
      obtain ⟨l1, l2, l3, l4, l5⟩ := hle
      refine ⟨⟨l1, l2, l3⟩, fun D A sz => ?_⟩
      obtain ⟨N, hN⟩ := qa_ev_some.mp hev
      refine vx_ofW (cc := bytes) (maxL := maxL) (ret := ret) hy rfl ?_
      intro p e s m args below meth c s₁ B hml htab hv
      obtain ⟨rfl, hsz, hW, hwf, hav, hSt⟩ := hv
      have hts := atoms_spec (ws := Cond.code y bytes maxL ret :: qa_tb) B.pre
      have hown : s.vm.findClass y.cls = some m.cls := findClass_of_methodNamed B.named
      have hin : meth.name = y.name := (name_of_methodNamed B.named B.method).1
      have C : qa_C true A p s m ((av.map (qa_val A)).toArray) meth c bytes maxL y.cls (qa_F A a0 sz) (qa_rm fr lo a0 r) a0.2.2.2.1 a0.2.2.2.2 r :=
        ⟨B.exec, B.bytes, hml, hown, fun w hw => hts w (List.mem_cons_of_mem _ hw), B.notSynchronized, fun q hq => Or.inr (by rw [← hsz]; exact hq), by show a0.2.2.2.1 + (r.2.2.2.2.1 - a0.2.2.2.1) = _; omega, by show a0.2.2.2.2 + (r.2.2.2.2.2 - a0.2.2.2.2) = _; omega, fun _ => htab, hSt⟩
      exact qa_core (l := l) hp0 (@body p e s m _ below meth c D (qa_F A a0 sz) A a0 r C B.returns hin) hN l4 l5 hW hwf hav
    · cases hr
  · cases hr
def qa_ConH (l : Launch) (y : MethodName) (bytes : ByteArray) (maxL : Nat) (ret : Option FieldType) (hh : List (Nat × Nat × Nat × Nat)) (fr lo : Nat) (f : List qV → qA → Option qR) : Prop :=
  ∀ (av : List qV) (a : qA) (r : qR), f av a = some r → qa_le a (.inr r) ∧ ∀ (D : va_G) (A : Int → Nat) (sz : Nat),
    vx_Met l y (Cond.codeWith y bytes maxL ret hh :: qa_tb) (qa_rm fr lo a r) (va_Pc (av.map (qa_val A)) (qa_Pre D A a av sz)) (qa_Post D A a r (qa_F A a sz)) (qa_PostX D A a r (qa_F A a sz)) (r.2.2.2.2.1 - a.2.2.2.1) (r.2.2.2.2.2 - a.2.2.2.2) (qa_F A a sz)
theorem qa_methodH {y : MethodName} {bytes : ByteArray} {maxL fr lo : Nat} {ret : Option FieldType} {hh : List (Nat × Nat × Nat × Nat)} {P : qP} {pcs : Nat → Nat} (hy : plainName y.cls = true) (hp0 : pcs 0 = 0)
    (body : ∀ {p : Program} {e : Env} {s : State} {m : MethodId} {args : Array Value} {below : List Frame} {meth : Method} {c : Code} {D : va_G} {A0 : Nat → Prop} {Ai : Int → Nat} {a0 : qA} {r : qR}, qa_C false Ai p s m args meth c bytes maxL y.cls A0 (qa_rm fr lo a0 r) a0.2.2.2.1 a0.2.2.2.2 r → meth.sig.returnType = ret → meth.name = y.name → c.exceptionTable.toList = tableOf hh →
      ∀ (j : Nat) (f : qI), P[j]? = some f → qa_OK p l e (qa_rm fr lo a0 r) s m args below meth c (qa_Q below D Ai a0 r A0 args s) D A0 Ai a0.2.2.1 maxL a0.2.2.2.1 a0.2.2.2.2 r pcs (pcs j) f) : qa_ConH l y bytes maxL ret hh fr lo (qa_fn P maxL) := by
  intro av a0 r hr
  unfold qa_fn at hr
  split at hr
  · rename_i r' hev
    split at hr
    · rename_i hle
      have e9 : r' = r := Option.some.inj hr
      rw [e9] at hev hle
      obtain ⟨l1, l2, l3, l4, l5⟩ := hle
      refine ⟨⟨l1, l2, l3⟩, fun D A sz => ?_⟩
      obtain ⟨N, hN⟩ := qa_ev_some.mp hev
      refine vx_ofWH (cc := bytes) (maxL := maxL) (ret := ret) (hh := hh) hy rfl ?_
      intro p e s m args below meth c s₁ B hml hv
      obtain ⟨rfl, hsz, hW, hwf, hav, hSt⟩ := hv
      have hts := atoms_spec (ws := Cond.codeWith y bytes maxL ret hh :: qa_tb) B.pre
      have htab := vx_table (x := y) B (hts _ List.mem_cons_self)
      have hown : s.vm.findClass y.cls = some m.cls := findClass_of_methodNamed B.named
      have hin : meth.name = y.name := (name_of_methodNamed B.named B.method).1
      have C : qa_C false A p s m ((av.map (qa_val A)).toArray) meth c bytes maxL y.cls (qa_F A a0 sz) (qa_rm fr lo a0 r) a0.2.2.2.1 a0.2.2.2.2 r :=
        ⟨B.exec, B.bytes, hml, hown, fun w hw => hts w (List.mem_cons_of_mem _ hw), B.notSynchronized, fun q hq => Or.inr (by rw [← hsz]; exact hq), by show a0.2.2.2.1 + (r.2.2.2.2.1 - a0.2.2.2.1) = _; omega, by show a0.2.2.2.2 + (r.2.2.2.2.2 - a0.2.2.2.2) = _; omega, (fun z : false = true => absurd z (by decide)), hSt⟩
      exact qa_core (l := l) hp0 (@body p e s m _ below meth c D (qa_F A a0 sz) A a0 r C B.returns hin htab) hN l4 l5 hW hwf hav
    · cases hr
  · cases hr
end QM
