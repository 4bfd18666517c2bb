def qa_sL (s : Int) : Option (Nat × List Int) := (qa_SA.find? (fun q => q.1 == s)).map (fun q => q.2)
def qa_sF (s : Int) (fn : String) : Option qV := (qa_SO.find? (fun q => q.1 == s && q.2.2.1 == fn)).map (fun q => q.2.2.2.2)
def q_sld (ty : Nat) (k : qI) : qI := fun ls st a => match st with
  | i :: o :: r => match qa_sL o.2 with
    | some q => if i.1 = 0 ∧ o.1 = 1 ∧ q.1 = ty ∧ 0 ≤ i.2 ∧ i.2 < (q.2.length : Int) then k ls ((if ty = 110 then 1 else 0, q.2.getD i.2.toNat 0) :: r) a else none
    | none => none
  | _ => none
def q_slen (k : qI) : qI := fun ls st a => match st with
  | o :: r => match qa_sL o.2 with
    | some q => if o.1 = 1 then k ls ((0, (q.2.length : Int)) :: r) a else none
    | none => none
  | _ => none
def q_sget (fn : String) (k : qI) : qI := fun ls st a => match st with
  | o :: r => match qa_sF o.2 fn with
    | some v => if o.1 = 1 then k ls (v :: r) a else none
    | none => none
  | _ => none
def q_vast (k : qI) : qI := fun ls st a => match st with
  | v :: i :: o :: r => if v.1 = 1 ∧ (v.2, "PromiseLog$Verb") ∈ qa_SC ∧ i.1 = 0 ∧ o.1 = 1 ∧ (a.2.1 o.2).1 = 110 ∧ 0 ≤ i.2 ∧ i.2 < (a.2.1 o.2).2 then k ls r (qa_up a.1 o.2 i.2 v.2, a.2) else none
  | _ => none
def q_calls (cn : String) (f : List qV → qA → Option qR) (nP : Nat) (k : qI) : qI := fun ls st a => match st[nP - 1]? with
  | some v => if v.1 = 1 ∧ (v.2, cn) ∈ qa_SC ∧ 1 ≤ nP then q_call f nP k ls st a else none
  | none => none
section QS
variable {p : Program} {l : Launch} {e : Env} {R : Room} {s : State} {m : MethodId} {args : Array Value} {below : List Frame} {meth : Method} {c : Code} {Q : State → Prop} {cc : ByteArray} {nL : Nat} {own : String} {D : va_G} {A0 : Nat → Prop} {Ai : Int → Nat} {xb : Bool} {n0 c0 s0 : Nat} {r : qR} {pcs : Nat → Nat} {a0 : qA}
theorem qa_stat {pc pc' : Nat} {f k : qI} (K : qa_OK p l e R s m args below meth c Q D A0 Ai n0 nL c0 s0 r pcs pc' k)
    (hf : ∀ ls st a o, f ls st a = some o → ∃ st', k ls st' a = some o ∧ (∀ n : Nat, qa_okl n st → qa_okl n st') ∧ (∀ n : Nat, qa_okl n st → ∀ (A : Int → Nat) (H : Heap) (locs : List Loc) (kc ks : Nat) (LS : Array Slot), (∀ v : Int, v < 0 → A v = Ai v) → va_S A0 s.heap H locs → W p l e R s m args below meth c H locs kc ks Q (F0 m pc' LS (st'.map (qa_val A))) → W p l e R s m args below meth c H locs kc ks Q (F0 m pc LS (st.map (qa_val A))))) : qa_OK p l e R s m args below meth c Q D A0 Ai n0 nL c0 s0 r pcs pc f := by
  intro ls st a o ho
  obtain ⟨st', h1, h2, h3⟩ := hf ls st a o ho
  refine ⟨(K _ _ _ _ h1).1, fun g => ?_⟩
  intro A H locs kc ks LS hW hwf hls hst hn hA hS hL hc hs
  exact h3 _ hst A H locs kc ks LS (fun v hv => hA v (by omega)) hS ((K _ _ _ _ h1).2 g A H locs kc ks LS hW hwf hls (h2 _ hst) hn hA hS hL hc hs)
theorem qa_okst {n : Nat} {v : qV} (h : (v.1 = 0 ∧ qa_rg v.2) ∨ (v.1 = 1 ∧ v.2 < 0)) : qa_okv n v := by
  rcases h with ⟨h1, h2⟩ | ⟨h1, h2⟩
  · exact ⟨fun _ => h2, fun z => absurd (h1.symm.trans z) (by decide)⟩
  · exact ⟨fun z => by rcases z with z | z <;> exact absurd (h1.symm.trans z) (by decide), fun _ => by omega⟩
theorem qa_okZ : ∀ q ∈ qa_SZ, (q.2.2.2.1 = 0 ∧ qa_rg q.2.2.2.2) ∨ (q.2.2.2.1 = 1 ∧ q.2.2.2.2 < 0) := by decide +kernel
theorem qa_okO : ∀ q ∈ qa_SO, q.1 < -1 ∧ ((q.2.2.2.2.1 = 0 ∧ qa_rg q.2.2.2.2.2) ∨ (q.2.2.2.2.1 = 1 ∧ q.2.2.2.2.2 < 0)) := by decide +kernel
theorem qa_okA : ∀ q ∈ qa_SA, q.1 < -1 ∧ q.2.2.length < 2147483648 ∧ ∀ x ∈ q.2.2, qa_rg x ∧ (q.2.1 = 110 → x < 0) := by decide +kernel
theorem qa_okC : ∀ q ∈ qa_SC, q.1 < -1 := by decide +kernel
theorem qa_vext {A : Int → Nat} {v : qV} (hA : ∀ x : Int, x < 0 → A x = Ai x) (h : (v.1 = 0 ∧ qa_rg v.2) ∨ (v.1 = 1 ∧ v.2 < 0)) : qa_val A v = qa_val Ai v := qa_val_ext (fun z => by
  rcases h with h | h
  · exact absurd (h.1.symm.trans z) (by decide)
  · exact hA _ h.2)
theorem ok_gets (C : qa_C xb Ai p s m args meth c cc nL own A0 R c0 s0 r) {pc index : Nat} {k : qI} {Cn fn fd : String} {v : qV} (hq : (Cn, fn, fd, v) ∈ qa_SZ) (hlink : Cond.fieldLink own index Cn fn fd ∈ qa_tb) (d : decode cc pc = .ok (.getstatic index, 3)) (K : qa_OK p l e R s m args below meth c Q D A0 Ai n0 nL c0 s0 r pcs (pc + 3) k) : qa_OK p l e R s m args below meth c Q D A0 Ai n0 nL c0 s0 r pcs pc (q_const v k) := by
  refine qa_stat K (fun ls st a o ho => ⟨v :: st, ho, fun n h => qa_okl_cons (qa_okst (qa_okZ _ hq)) h, fun n _ A H locs kc ks LS hA hS kk => ?_⟩)
  rw [List.map_cons, qa_vext hA (qa_okZ _ hq)] at kk
  exact va_gets C.1 C.2.1 (C.2.2.2.2.2.2.2.2.2.2.2.2.2.2.1.1 _ hq) hS C.2.2.2.1 (C.2.2.2.2.1 _ hlink) (fun _ h => h) d kk
theorem ok_getsn (C : qa_C xb Ai p s m args meth c cc nL own A0 R c0 s0 r) {pc index : Nat} {k : qI} {Cn fn fd host : String} {v : qV} (hq : (Cn, fn, fd, v) ∈ qa_SZ) (hlink : Cond.fieldLinkNest own index Cn fn fd host ∈ qa_nest) (d : decode cc pc = .ok (.getstatic index, 3)) (K : qa_OK p l e R s m args below meth c Q D A0 Ai n0 nL c0 s0 r pcs (pc + 3) k) : qa_OK p l e R s m args below meth c Q D A0 Ai n0 nL c0 s0 r pcs pc (q_const v k) := by
  refine qa_stat K (fun ls st a o ho => ⟨v :: st, ho, fun n h => qa_okl_cons (qa_okst (qa_okZ _ hq)) h, fun n _ A H locs kc ks LS hA hS kk => ?_⟩)
  rw [List.map_cons, qa_vext hA (qa_okZ _ hq)] at kk
  exact va_getsN C.1 C.2.1 (C.2.2.2.2.2.2.2.2.2.2.2.2.2.2.1.1 _ hq) hS C.2.2.2.1 (C.2.2.2.2.2.2.2.2.2.2.word hlink) (fun _ h => h) d kk
theorem ok_ldcs (C : qa_C xb Ai p s m args meth c cc nL own A0 R c0 s0 r) {pc : Nat} {k : qI} (hown : own = "PromiseLog$Script") (d : decode cc pc = .ok (.ldc 92, 2)) (K : qa_OK p l e R s m args below meth c Q D A0 Ai n0 nL c0 s0 r pcs (pc + 2) k) : qa_OK p l e R s m args below meth c Q D A0 Ai n0 nL c0 s0 r pcs pc (q_const (1, -80) k) := by
  refine qa_stat K (fun ls st a o ho => ⟨(1, -80) :: st, ho, fun n h => qa_okl_cons (qa_okst (Or.inr ⟨rfl, by decide⟩)) h, fun n _ A H locs kc ks LS hA hS kk => ?_⟩)
  rw [List.map_cons, qa_v1, qa_rfr (by decide), hA _ (by decide)] at kk
  subst hown
  exact va_ldcS C.1 C.2.1 C.2.2.2.1 C.2.2.2.2.2.2.2.2.2.2.2.2.2.2.2.1 d kk
theorem qa_sLm {s : Int} {q : Nat × List Int} (h : qa_sL s = some q) : (s, q) ∈ qa_SA := by
  unfold qa_sL at h
  cases hf : qa_SA.find? (fun q => q.1 == s) with
  | none => rw [hf] at h; cases h
  | some w =>
    rw [hf] at h
    cases h
    have h1 := List.mem_of_find?_eq_some hf
    have h2 := List.find?_some hf
    simp only [beq_iff_eq] at h2
    subst h2
    exact h1
theorem qa_sFm {s : Int} {fn : String} {v : qV} (h : qa_sF s fn = some v) : ∃ q ∈ qa_SO, q.1 = s ∧ q.2.2.1 = fn ∧ q.2.2.2.2 = v := by
  unfold qa_sF at h
  cases hf : qa_SO.find? (fun q => q.1 == s && q.2.2.1 == fn) with
  | none => rw [hf] at h; cases h
  | some w =>
    rw [hf] at h
    cases h
    have h1 := List.mem_of_find?_eq_some hf
    have h2 := List.find?_some hf
    simp only [Bool.and_eq_true, beq_iff_eq] at h2
    exact ⟨w, h1, h2.1, h2.2, rfl⟩
theorem qa_sldg (C : qa_C xb Ai p s m args meth c cc nL own A0 R c0 s0 r) {pc ty : Nat} {k : qI} (K : qa_OK p l e R s m args below meth c Q D A0 Ai n0 nL c0 s0 r pcs (pc + 1) k)
    (hw : ∀ (H : Heap) (locs : List Loc) (kc ks : Nat) (LS : Array Slot) (t : Nat) (L : List Int) (i : Int) (rest : List Value), va_T (qa_aty ty) t L.length (fun j => qa_val Ai (if ty = 110 then 1 else 0, L.getD j 0)) A0 s s.heap → va_S A0 s.heap H locs → vp_in (Int32.ofInt i) L.length → (Int32.ofInt i).toNatClampNeg = i.toNat → W p l e R s m args below meth c H locs kc ks Q (F0 m (pc + 1) LS (qa_val Ai (if ty = 110 then 1 else 0, L.getD i.toNat 0) :: rest)) → W p l e R s m args below meth c H locs kc ks Q (F0 m pc LS (.int (Int32.ofInt i) :: .ref t :: rest))) : qa_OK p l e R s m args below meth c Q D A0 Ai n0 nL c0 s0 r pcs pc (q_sld ty k) := by
  refine qa_stat K (fun ls st a o ho => ?_)
  unfold q_sld at ho
  split at ho
  · rename_i i ob rs
    split at ho
    · rename_i q hq
      split at ho
      · rename_i h
        obtain ⟨h1, h2, h3, h4, h5⟩ := h
        have hm := qa_sLm hq
        have hA9 := qa_okA _ hm
        have hlt : i.2.toNat < q.2.length := by omega
        have hx : (((if ty = 110 then 1 else 0 : Nat), q.2.getD i.2.toNat 0) : qV).1 = 0 ∧ qa_rg (q.2.getD i.2.toNat 0) ∨ (((if ty = 110 then 1 else 0 : Nat), q.2.getD i.2.toNat 0) : qV).1 = 1 ∧ q.2.getD i.2.toNat 0 < 0 := by
          have := hA9.2.2 (q.2.getD i.2.toNat 0) (by rw [List.getD_eq_getElem?_getD, List.getElem?_eq_getElem hlt]; exact List.getElem_mem hlt)
          by_cases hty : ty = 110
          · exact Or.inr ⟨if_pos hty, this.2 (h3.trans hty)⟩
          · exact Or.inl ⟨if_neg hty, this.1⟩
        refine ⟨_, ho, fun n h => qa_okl_cons (qa_okst hx) (qa_okl_tl (qa_okl_tl h)), fun n h A H locs kc ks LS hA hS kk => ?_⟩
        rw [List.map_cons, qa_vext hA hx] at kk
        have hr := qa_rgi (qa_okl_hd h) h1
        rw [List.map_cons, List.map_cons, qa_eta h1, qa_eta h2, qa_v1, qa_v0, qa_rfr (by have := hA9.1; dsimp only at this; omega), hA _ (by have := hA9.1; dsimp only at this; omega)]
        have hT := C.2.2.2.2.2.2.2.2.2.2.2.2.2.2.1.2.1 _ hm
        dsimp only at hT
        rw [h3] at hT
        refine hw H locs kc ks LS _ q.2 i.2 _ hT hS ?_ (q_clamp hr) kk
        have := qa_in h4 h5 hr
        rwa [Int.toNat_natCast] at this
      · cases ho
    · cases ho
  · cases ho
theorem ok_sldi (C : qa_C xb Ai p s m args meth c cc nL own A0 R c0 s0 r) {pc : Nat} {k : qI} (d : decode cc pc = .ok (.iaload, 1)) (K : qa_OK p l e R s m args below meth c Q D A0 Ai n0 nL c0 s0 r pcs (pc + 1) k) : qa_OK p l e R s m args below meth c Q D A0 Ai n0 nL c0 s0 r pcs pc (q_sld 101 k) :=
  qa_sldg C K (fun H locs kc ks LS t L i rest hT hS hin hcl kk => va_ti C.1 C.2.1 hT hS hin (by rw [hcl]) d kk)
theorem ok_sldb (C : qa_C xb Ai p s m args meth c cc nL own A0 R c0 s0 r) {pc : Nat} {k : qI} (d : decode cc pc = .ok (.baload, 1)) (K : qa_OK p l e R s m args below meth c Q D A0 Ai n0 nL c0 s0 r pcs (pc + 1) k) : qa_OK p l e R s m args below meth c Q D A0 Ai n0 nL c0 s0 r pcs pc (q_sld 102 k) :=
  qa_sldg C K (fun H locs kc ks LS t L i rest hT hS hin hcl kk => va_tb C.1 C.2.1 hT hS hin (by rw [hcl]) d kk)
theorem ok_sldr (C : qa_C xb Ai p s m args meth c cc nL own A0 R c0 s0 r) {pc : Nat} {k : qI} (d : decode cc pc = .ok (.aaload, 1)) (K : qa_OK p l e R s m args below meth c Q D A0 Ai n0 nL c0 s0 r pcs (pc + 1) k) : qa_OK p l e R s m args below meth c Q D A0 Ai n0 nL c0 s0 r pcs pc (q_sld 110 k) :=
  qa_sldg C K (fun H locs kc ks LS t L i rest hT hS hin hcl kk => vb_tq (C := "PromiseLog$Verb") C.1 C.2.1 hT hS hin (by rw [hcl]) d kk)
theorem ok_slen (C : qa_C xb Ai p s m args meth c cc nL own A0 R c0 s0 r) {pc : Nat} {k : qI} (d : decode cc pc = .ok (.arraylength, 1)) (K : qa_OK p l e R s m args below meth c Q D A0 Ai n0 nL c0 s0 r pcs (pc + 1) k) : qa_OK p l e R s m args below meth c Q D A0 Ai n0 nL c0 s0 r pcs pc (q_slen k) := by
  refine qa_stat K (fun ls st a o ho => ?_)
  unfold q_slen at ho
  split at ho
  · rename_i ob rs
    split at ho
    · rename_i q hq
      split at ho
      · rename_i h2
        have hm := qa_sLm hq
        have hA9 := qa_okA _ hm
        have hl := hA9.2.1
        dsimp only at hl
        refine ⟨_, ho, fun n h => qa_okl_cons (qa_oki ⟨by omega, by omega⟩) (qa_okl_tl h), fun n h A H locs kc ks LS hA hS kk => ?_⟩
        rw [List.map_cons, qa_v0] at kk
        rw [List.map_cons, qa_eta h2, qa_v1, qa_rfr (by have := hA9.1; dsimp only at this; omega), hA _ (by have := hA9.1; dsimp only at this; omega)]
        exact va_tlen C.1 C.2.1 (C.2.2.2.2.2.2.2.2.2.2.2.2.2.2.1.2.1 _ hm) hS (v := Int32.ofInt (q.2.length : Int)) rfl d kk
      · cases ho
    · cases ho
  · cases ho
theorem ok_sget (C : qa_C xb Ai p s m args meth c cc nL own A0 R c0 s0 r) {pc index : Nat} {k : qI} {oc fn fd : String} (hall : ∀ q ∈ qa_SO, q.2.2.1 = fn → q.2.1 = oc ∧ q.2.2.2.1 = fd) (hlink : Cond.fieldLink own index oc fn fd ∈ qa_tb) (d : decode cc pc = .ok (.getfield index, 3)) (K : qa_OK p l e R s m args below meth c Q D A0 Ai n0 nL c0 s0 r pcs (pc + 3) k) : qa_OK p l e R s m args below meth c Q D A0 Ai n0 nL c0 s0 r pcs pc (q_sget fn k) := by
  refine qa_stat K (fun ls st a o ho => ?_)
  unfold q_sget at ho
  split at ho
  · rename_i ob rs
    split at ho
    · rename_i v hv
      split at ho
      · rename_i h2
        obtain ⟨q, hq, e1, e2, e3⟩ := qa_sFm hv
        have hO := qa_okO _ hq
        rw [e3] at hO
        refine ⟨_, ho, fun n h => qa_okl_cons (qa_okst hO.2) (qa_okl_tl h), fun n h A H locs kc ks LS hA hS kk => ?_⟩
        rw [List.map_cons, qa_vext hA hO.2] at kk
        have h9 := C.2.2.2.2.2.2.2.2.2.2.2.2.2.2.1.2.2.1 _ hq
        obtain ⟨g1, g2⟩ := hall q hq e2
        rw [g1, e2, g2, e3, e1] at h9
        rw [List.map_cons, qa_eta h2, qa_v1, qa_rfr (by have := hO.1; omega), hA _ (by have := hO.1; omega)]
        exact vk_getf C.1 C.2.1 h9 hS C.2.2.2.1 (C.2.2.2.2.1 _ hlink) (fun _ h => h) d kk
      · cases ho
    · cases ho
  · cases ho
theorem ok_newverbs (C : qa_C xb Ai p s m args meth c cc nL own A0 R c0 s0 r) {pc index : Nat} {k : qI} (hw : Cond.classLink own index "PromiseLog$Verb" ∈ qa_tb) (d : decode cc pc = .ok (.anewarray index, 3)) (K : qa_OK p l e R s m args below meth c Q D A0 Ai n0 nL c0 s0 r pcs (pc + 3) k) : qa_OK p l e R s m args below meth c Q D A0 Ai n0 nL c0 s0 r pcs pc (q_newa 110 (-1) k) :=
  qa_newag (t := 1) C (Or.inr rfl) (by decide) K (fun A cA tys a n H locs kc ks LS rest hK hP hD hS hn hcl h6 hcc hss kk => by
    have hSS : qa_S Ai A0 s s.heap := C.2.2.2.2.2.2.2.2.2.2
    exact va_newq (C := "PromiseLog$Verb") C.1 C.2.1 C.2.2.2.1 (C.2.2.2.2.1 _ hw) (hSS.2.1 _ (by decide)) hK hP hD hS C.2.2.2.2.2.2.1 (N' := n.toNat) hn hcl (by omega) hcc hss d (fun q cq H1 hK1 hP1 hD1 hS1 => kk q cq H1 hK1 hP1 hD1 hS1))
theorem ok_vaload (C : qa_C xb Ai p s m args meth c cc nL own A0 R c0 s0 r) {pc : Nat} {k : qI} (d : decode cc pc = .ok (.aaload, 1)) (K : qa_OK p l e R s m args below meth c Q D A0 Ai n0 nL c0 s0 r pcs (pc + 1) k) : qa_OK p l e R s m args below meth c Q D A0 Ai n0 nL c0 s0 r pcs pc (q_ald 110 1 k) :=
  qa_aldg (by decide) (fun _ => rfl) K (fun A cA tys a H locs kc ks LS o i t0 rest hK hP he ht hin hcl h0 kk => by
    refine va_aldq (C := "PromiseLog$Verb") (f := fun i : Nat => qa_rf A (a.1 o (i : Int))) C.1 C.2.1 hK hP _ t0 he ht hin d ?_
    rw [hcl, qa_nat h0]
    exact kk)
theorem ok_vastore (C : qa_C xb Ai p s m args meth c cc nL own A0 R c0 s0 r) {pc : Nat} {k : qI} (d : decode cc pc = .ok (.aastore, 1)) (K : qa_OK p l e R s m args below meth c Q D A0 Ai n0 nL c0 s0 r pcs (pc + 1) k) : qa_OK p l e R s m args below meth c Q D A0 Ai n0 nL c0 s0 r pcs pc (q_vast k) :=
  qa_astg (ty := 110) (t := 1) (by decide) (fun _ => rfl) K (fun x => x) (fun _ x => (x, "PromiseLog$Verb") ∈ qa_SC) (fun _ _ h => h) (fun ls st a o ho => by
    unfold q_vast at ho
    split at ho
    · rename_i v i y rs
      split at ho
      · rename_i h
        obtain ⟨h1, h0, h2, h3, h4, h5, h6⟩ := h
        exact ⟨v.2, i.2, y.2, rs, by rw [← qa_eta h1, ← qa_eta h2, ← qa_eta h3], h0, h4, h5, h6, ho⟩
      · cases ho
    · cases ho) (fun A cA tys a H locs kc ks LS o i x t0 rest hneg hwf hp hK hP hD hS he ht hin hcl h0 hx kk => by
    have hlt := qa_okC _ hp
    dsimp only at hlt
    have hne : x ≠ -1 := by omega
    have e : (fun j : Nat => qa_rf A (qa_up a.1 o i x o (j : Int))) = va_up (fun j : Nat => qa_rf A (a.1 o (j : Int))) i.toNat (some (A x)) := by
      funext j
      unfold qa_up va_up
      by_cases h : j = i.toNat
      · rw [if_pos h, if_pos ⟨rfl, by omega⟩]
        unfold qa_rf
        rw [if_neg hne]
      · rw [if_neg h, if_neg (fun z => h (by have := z.2; omega))]
    rw [qa_v1, qa_rfr hne]
    have hO := (C.2.2.2.2.2.2.2.2.2.2.2.2.2.2.1.2.2.2 _ hp).kept hS.2.1
    dsimp only at hO
    rw [← hneg x (by omega)] at hO
    obtain ⟨cell, g1, g2, g3, -⟩ := hO
    refine va_astqM (E := "PromiseLog$Verb") (f := fun j : Nat => qa_rf A (a.1 o (j : Int))) C.1 C.2.1 hK hP hD hS _ t0 he ht ⟨cell, g1, g2, ?_, fun comp h9 => ?_⟩ hin d ?_
    · obtain ⟨kC, hkC, -⟩ := Vm.findClass_spec g3
      exact ⟨kC, hkC⟩
    · cases h9.symm.trans g3
      exact va_asg _ _
    · rw [hcl, ← e]
      exact kk)
end QS
