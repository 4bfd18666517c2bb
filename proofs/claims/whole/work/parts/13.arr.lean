section QS
variable {p : Program} {l : Launch} {e : Env} {R : Room} {s : State} {m : MethodId} {args : Array Value} {below : List Frame} {meth : Method} {c : Code} {Q : State → Prop} {cc : ByteArray} {nL : Nat} {own : String} {D : va_G} {A0 : Nat → Prop} {Ai : Int → Nat} {xb : Bool} {n0 c0 s0 : Nat} {r : qR} {pcs : Nat → Nat}
theorem qa_in {i : Int} {n : Int} (h0 : 0 ≤ i) (h1 : i < n) (hr : qa_rg i) : vp_in (Int32.ofInt i) n.toNat := by
  rw [vp_in_iff, q_i32 hr]
  exact ⟨h0, by omega⟩
theorem qa_aldg {pc ty t : Nat} {k : qI} (h100 : 100 < ty) (htag : ∀ j : Int, qa_tag ty j = t) (K : qa_OK p l e R s m args below meth c Q D A0 Ai n0 nL c0 s0 r pcs (pc + 1) k)
    (hw : ∀ (A : Int → Nat) (cA : Int → ClassId) (tys : List (ClassId × FieldType)) (a : qA) (H : Heap) (locs : List Loc) (kc ks : Nat) (LS : Array Slot) (o i : Int) (t0 : Nat) (rest : List Value), va_K D vwCl tys s → va_P D vwCl (qa_ws A cA a) H → (qa_ws A cA a)[o.toNat]? = some (A o, .inl (cA o, (a.2.1 o).2.toNat, qa_arr A ty (a.1 o))) → tys[t0]? = some (cA o, qa_aty ty) → vp_in (Int32.ofInt i) (a.2.1 o).2.toNat → (Int32.ofInt i).toNatClampNeg = i.toNat → 0 ≤ i →
      W p l e R s m args below meth c H locs kc ks Q (F0 m (pc + 1) LS (qa_val A (t, a.1 o i) :: rest)) → W p l e R s m args below meth c H locs kc ks Q (F0 m pc LS (.int (Int32.ofInt i) :: .ref (A o) :: rest))) : qa_OK p l e R s m args below meth c Q D A0 Ai n0 nL c0 s0 r pcs pc (q_ald ty t k) := by
  intro ls st a o ho
  unfold q_ald at ho
  split at ho
  · rename_i i ob rs
    split at ho
    · rename_i h
      obtain ⟨h1, h2, h3, h4, h5⟩ := h
      refine ⟨(K _ _ _ _ ho).1, fun g => ?_⟩
      intro A H locs kc ks LS hW hwf hls hst hn hA hS hL hc hs
      obtain ⟨cA, tys, hP, hD, hKK, hT⟩ := hW
      have hb := hwf.2.1 ob.2 (by rw [h3]; omega)
      have he := qa_ws_get (A := A) (cA := cA) (a := a) hb.1 hb.2
      rw [qa_arc h3 h100] at he
      obtain ⟨t0, ht0⟩ := hT ob.2 (by rw [h3]; exact h100)
      rw [h3] at ht0
      have hx := hwf.1 ob.2 i.2
      rw [h3, htag] at hx
      have kk := (K _ _ _ _ ho).2 g A H locs kc ks LS ⟨cA, tys, hP, hD, hKK, hT⟩ hwf hls (qa_okl_cons hx (qa_okl_tl (qa_okl_tl hst))) hn hA hS hL hc hs
      rw [List.map_cons] at kk
      rw [List.map_cons, List.map_cons, qa_eta h1, qa_eta h2, qa_v1, qa_v0, qa_rfr (by omega)]
      have hri := qa_rgi (qa_okl_hd hst) h1
      exact hw A cA tys a H locs kc ks LS ob.2 i.2 t0 _ hKK hP he ht0 (qa_in h4 h5 hri) (q_clamp hri) h4 kk
    · cases ho
  · cases ho
theorem qa_nat {i : Int} (h : 0 ≤ i) : ((i.toNat : Nat) : Int) = i := Int.toNat_of_nonneg h
theorem ok_iaload (C : qa_C xb Ai p s m args meth c cc nL own A0 R c0 s0 r) {pc : Nat} {k : qI} (d : decode cc pc = .ok (.iaload, 1)) (K : qa_OK p l e R s m args below meth c Q D A0 Ai n0 nL c0 s0 r pcs (pc + 1) k) : qa_OK p l e R s m args below meth c Q D A0 Ai n0 nL c0 s0 r pcs pc (q_ald 101 0 k) :=
  qa_aldg (by decide) (fun _ => rfl) K (fun A cA tys a H locs kc ks LS o i t0 rest hK hP he ht hin hcl h0 kk => va_iald C.1 C.2.1 hK hP _ t0 (f := fun i : Nat => Int32.ofInt (a.1 o (i : Int))) he ht hin d (by rw [hcl, qa_nat h0]; exact kk))
theorem ok_baload (C : qa_C xb Ai p s m args meth c cc nL own A0 R c0 s0 r) {pc : Nat} {k : qI} (d : decode cc pc = .ok (.baload, 1)) (K : qa_OK p l e R s m args below meth c Q D A0 Ai n0 nL c0 s0 r pcs (pc + 1) k) : qa_OK p l e R s m args below meth c Q D A0 Ai n0 nL c0 s0 r pcs pc (q_ald 102 0 k) :=
  qa_aldg (by decide) (fun _ => rfl) K (fun A cA tys a H locs kc ks LS o i t0 rest hK hP he ht hin hcl h0 kk => va_bald C.1 C.2.1 hK hP _ t0 (f := fun i : Nat => Int32.ofInt (a.1 o (i : Int))) he ht hin d (by rw [hcl, qa_nat h0]; exact kk))
theorem ok_zaload (C : qa_C xb Ai p s m args meth c cc nL own A0 R c0 s0 r) {pc : Nat} {k : qI} (d : decode cc pc = .ok (.baload, 1)) (K : qa_OK p l e R s m args below meth c Q D A0 Ai n0 nL c0 s0 r pcs (pc + 1) k) : qa_OK p l e R s m args below meth c Q D A0 Ai n0 nL c0 s0 r pcs pc (q_ald 103 0 k) :=
  qa_aldg (by decide) (fun _ => rfl) K (fun A cA tys a H locs kc ks LS o i t0 rest hK hP he ht hin hcl h0 kk => va_zald C.1 C.2.1 hK hP _ t0 (f := fun i : Nat => Int32.ofInt (a.1 o (i : Int))) he ht hin d (by rw [hcl, qa_nat h0]; exact kk))
theorem ok_laload (C : qa_C xb Ai p s m args meth c cc nL own A0 R c0 s0 r) {pc : Nat} {k : qI} (d : decode cc pc = .ok (.laload, 1)) (K : qa_OK p l e R s m args below meth c Q D A0 Ai n0 nL c0 s0 r pcs (pc + 1) k) : qa_OK p l e R s m args below meth c Q D A0 Ai n0 nL c0 s0 r pcs pc (q_ald 105 2 k) :=
  qa_aldg (by decide) (fun _ => rfl) K (fun A cA tys a H locs kc ks LS o i t0 rest hK hP he ht hin hcl h0 kk => va_lald C.1 C.2.1 hK hP _ t0 (f := fun i : Nat => Int64.ofInt (a.1 o (i : Int))) he ht hin d (by rw [hcl, qa_nat h0]; exact kk))
theorem ok_daload (C : qa_C xb Ai p s m args meth c cc nL own A0 R c0 s0 r) {pc : Nat} {k : qI} (d : decode cc pc = .ok (.daload, 1)) (K : qa_OK p l e R s m args below meth c Q D A0 Ai n0 nL c0 s0 r pcs (pc + 1) k) : qa_OK p l e R s m args below meth c Q D A0 Ai n0 nL c0 s0 r pcs pc (q_ald 107 4 k) :=
  qa_aldg (by decide) (fun _ => rfl) K (fun A cA tys a H locs kc ks LS o i t0 rest hK hP he ht hin hcl h0 kk => va_dald C.1 C.2.1 hK hP _ t0 (f := fun i : Nat => UInt64.ofNat (a.1 o (i : Int)).toNat) he ht hin d (by rw [hcl, qa_nat h0]; exact kk))
theorem qa_tagr {ty : Nat} (h : 110 < ty) (j : Int) : qa_tag ty j = 1 := by
  unfold qa_tag
  rw [if_neg (by omega), if_neg (by omega), if_neg (by omega), if_neg (by omega), if_neg (by omega), if_neg (by omega)]
theorem qa_arrr {A : Int → Nat} {ty : Nat} (h : 110 < ty) (f : Int → Int) : qa_arr A ty f = .inr (.inr (.inr (.inr (fun i : Nat => qa_rf A (f (i : Int)))))) := by
  unfold qa_arr
  rw [if_neg (by omega), if_neg (by omega), if_neg (by omega), if_neg (by omega)]
theorem qa_atyr (ci : Nat) : qa_aty (111 + ci) = .object (qa_cn ci) := by
  unfold qa_aty
  rw [if_neg (by omega), if_neg (by omega), if_neg (by omega), if_neg (by omega), if_neg (by omega), if_neg (by omega), if_neg (by omega), if_neg (by omega)]
  congr 2
  omega
theorem ok_aaload (C : qa_C xb Ai p s m args meth c cc nL own A0 R c0 s0 r) {pc ci : Nat} {k : qI} (d : decode cc pc = .ok (.aaload, 1)) (K : qa_OK p l e R s m args below meth c Q D A0 Ai n0 nL c0 s0 r pcs (pc + 1) k) : qa_OK p l e R s m args below meth c Q D A0 Ai n0 nL c0 s0 r pcs pc (q_ald (111 + ci) 1 k) :=
  qa_aldg (by omega) (fun j => qa_tagr (by omega) j) K (fun A cA tys a H locs kc ks LS o i t0 rest hK hP he ht hin hcl h0 kk => by
    rw [qa_arrr (by omega)] at he
    rw [qa_atyr] at ht
    refine va_aldq C.1 C.2.1 hK hP _ t0 he ht hin d ?_
    rw [hcl, qa_nat h0]
    exact kk)
theorem qa_astg {pc ty t : Nat} {f k : qI} (h100 : 100 < ty) (htag : ∀ j : Int, qa_tag ty j = t) (K : qa_OK p l e R s m args below meth c Q D A0 Ai n0 nL c0 s0 r pcs (pc + 1) k) (g : Int → Int) (P : qA → Int → Prop) (hg : ∀ n x, qa_okv n (t, x) → qa_okv n (t, g x))
    (hf : ∀ ls st a o, f ls st a = some o → ∃ x i y rs, st = (t, x) :: (0, i) :: (1, y) :: rs ∧ P a x ∧ (a.2.1 y).1 = ty ∧ 0 ≤ i ∧ i < (a.2.1 y).2 ∧ k ls rs (qa_up a.1 y i (g x), a.2) = some o)
    (hw : ∀ (A : Int → Nat) (cA : Int → ClassId) (tys : List (ClassId × FieldType)) (a : qA) (H : Heap) (locs : List Loc) (kc ks : Nat) (LS : Array Slot) (o i x : Int) (t0 : Nat) (rest : List Value), (∀ v : Int, v < 0 → A v = Ai v) → qa_wf a → P a x → va_K D vwCl tys s → va_P D vwCl (qa_ws A cA a) H → va_D A0 (qa_ws A cA a) → va_S A0 s.heap H locs → (qa_ws A cA a)[o.toNat]? = some (A o, .inl (cA o, (a.2.1 o).2.toNat, qa_arr A ty (a.1 o))) → tys[t0]? = some (cA o, qa_aty ty) → vp_in (Int32.ofInt i) (a.2.1 o).2.toNat → (Int32.ofInt i).toNatClampNeg = i.toNat → 0 ≤ i → qa_okv a.2.2.1 (t, x) →
      (∀ (H1 : Heap) (locs1 : List Loc), va_P D vwCl ((qa_ws A cA a).set o.toNat (A o, .inl (cA o, (a.2.1 o).2.toNat, qa_arr A ty (qa_up a.1 o i (g x) o)))) H1 → va_D A0 ((qa_ws A cA a).set o.toNat (A o, .inl (cA o, (a.2.1 o).2.toNat, qa_arr A ty (qa_up a.1 o i (g x) o)))) → va_S A0 s.heap H1 locs1 → W p l e R s m args below meth c H1 locs1 kc ks Q (F0 m (pc + 1) LS rest)) → W p l e R s m args below meth c H locs kc ks Q (F0 m pc LS (qa_val A (t, x) :: .int (Int32.ofInt i) :: .ref (A o) :: rest))) : qa_OK p l e R s m args below meth c Q D A0 Ai n0 nL c0 s0 r pcs pc f := by
  intro ls st a o ho
  obtain ⟨x, i, y, rs, rfl, hp, h3, h4, h5, hk⟩ := hf ls st a o ho
  refine ⟨(K _ _ _ _ hk).1, fun gg => ?_⟩
  intro A H locs kc ks LS hW hwf hls hst hn hA hS hL hc hs
  obtain ⟨cA, tys, hP, hD, hKK, hT⟩ := hW
  have hb := hwf.2.1 y (by rw [h3]; omega)
  have he := qa_ws_get (A := A) (cA := cA) (a := a) hb.1 hb.2
  rw [qa_arc h3 h100] at he
  obtain ⟨t0, ht0⟩ := hT y (by rw [h3]; exact h100)
  rw [h3] at ht0
  have hset := qa_ws_set (A := A) (cA := cA) (a := a) (a' := (qa_up a.1 y i (g x), a.2)) hb.1 hb.2 rfl (fun k hk => qa_cell_ne hk)
  rw [qa_arc (a := (qa_up a.1 y i (g x), a.2)) h3 h100] at hset
  dsimp only at hset
  have hok := qa_okl_hd hst
  have hwf' : qa_wf (qa_up a.1 y i (g x), a.2) := qa_wf_put hwf (by rw [h3, htag]; exact hg _ _ hok)
  rw [List.map_cons, List.map_cons, List.map_cons, qa_v1, qa_v0, qa_rfr (by omega)]
  have hri := qa_rgi (qa_okl_hd (qa_okl_tl hst)) rfl
  refine hw A cA tys a H locs kc ks LS y i x t0 _ (fun v hv => hA v (by omega)) hwf hp hKK hP hD hS he ht0 (qa_in h4 h5 hri) (q_clamp hri) h4 hok (fun H1 locs1 hP1 hD1 hS1 => ?_)
  rw [hset] at hP1 hD1
  exact (K _ _ _ _ hk).2 gg A H1 locs1 kc ks LS ⟨cA, tys, hP1, hD1, hKK, hT⟩ hwf' hls (qa_okl_tl (qa_okl_tl (qa_okl_tl hst))) hn hA hS1 hL hc hs
theorem qa_upi {mm : Int → Int → Int} {o i x : Int} (h0 : 0 ≤ i) : (fun j : Nat => Int32.ofInt (qa_up mm o i x o (j : Int))) = upd (fun j : Nat => Int32.ofInt (mm o (j : Int))) i.toNat (Int32.ofInt x) := by
  funext j
  unfold qa_up upd
  by_cases h : j = i.toNat
  · rw [if_pos h, if_pos ⟨rfl, by omega⟩]
  · rw [if_neg h, if_neg (fun z => h (by have := z.2; omega))]
theorem qa_ast_inv {ty t : Nat} {k : qI} {ls st : List qV} {a : qA} {o : qO} (ho : q_ast ty t k ls st a = some o) : ∃ x i y rs, st = (t, x) :: (0, i) :: (1, y) :: rs ∧ True ∧ (a.2.1 y).1 = ty ∧ 0 ≤ i ∧ i < (a.2.1 y).2 ∧ k ls rs (qa_up a.1 y i x, a.2) = some o := by
  unfold q_ast at ho
  split at ho
  · rename_i v i y rs
    split at ho
    · rename_i h
      obtain ⟨h1, h2, h3, h4, h5, h6⟩ := h
      exact ⟨v.2, i.2, y.2, rs, by rw [← qa_eta h1, ← qa_eta h2, ← qa_eta h3], trivial, h4, h5, h6, ho⟩
    · cases ho
  · cases ho
theorem ok_iastore (C : qa_C xb Ai p s m args meth c cc nL own A0 R c0 s0 r) {pc : Nat} {k : qI} (d : decode cc pc = .ok (.iastore, 1)) (K : qa_OK p l e R s m args below meth c Q D A0 Ai n0 nL c0 s0 r pcs (pc + 1) k) : qa_OK p l e R s m args below meth c Q D A0 Ai n0 nL c0 s0 r pcs pc (q_ast 101 0 k) :=
  qa_astg (by decide) (fun _ => rfl) K (fun x => x) (fun _ _ => True) (fun _ _ h => h) (fun ls st a o ho => qa_ast_inv ho) (fun A cA tys a H locs kc ks LS o i x t0 rest hneg hwf hp hK hP hD hS he ht hin hcl h0 hx kk => by
    refine va_iast C.1 C.2.1 hK hP hD hS _ t0 (f := fun i : Nat => Int32.ofInt (a.1 o (i : Int))) he ht hin d ?_
    rw [hcl, ← qa_upi h0]
    exact kk)
theorem ok_lastore (C : qa_C xb Ai p s m args meth c cc nL own A0 R c0 s0 r) {pc : Nat} {k : qI} (d : decode cc pc = .ok (.lastore, 1)) (K : qa_OK p l e R s m args below meth c Q D A0 Ai n0 nL c0 s0 r pcs (pc + 1) k) : qa_OK p l e R s m args below meth c Q D A0 Ai n0 nL c0 s0 r pcs pc (q_ast 105 2 k) :=
  qa_astg (by decide) (fun _ => rfl) K (fun x => x) (fun _ _ => True) (fun _ _ h => h) (fun ls st a o ho => qa_ast_inv ho) (fun A cA tys a H locs kc ks LS o i x t0 rest hneg hwf hp hK hP hD hS he ht hin hcl h0 hx kk => by
    refine va_last C.1 C.2.1 hK hP hD hS _ t0 (f := fun i : Nat => Int64.ofInt (a.1 o (i : Int))) he ht hin d ?_
    have e : (fun j : Nat => Int64.ofInt (qa_up a.1 o i x o (j : Int))) = vp_updL (fun j : Nat => Int64.ofInt (a.1 o (j : Int))) i.toNat (Int64.ofInt x) := by
      funext j
      unfold qa_up vp_updL
      by_cases h : j = i.toNat
      · rw [if_pos h, if_pos ⟨rfl, by omega⟩]
      · rw [if_neg h, if_neg (fun z => h (by have := z.2; omega))]
    rw [hcl, ← e]
    exact kk)
theorem ok_dastore (C : qa_C xb Ai p s m args meth c cc nL own A0 R c0 s0 r) {pc : Nat} {k : qI} (d : decode cc pc = .ok (.dastore, 1)) (K : qa_OK p l e R s m args below meth c Q D A0 Ai n0 nL c0 s0 r pcs (pc + 1) k) : qa_OK p l e R s m args below meth c Q D A0 Ai n0 nL c0 s0 r pcs pc (q_ast 107 4 k) :=
  qa_astg (by decide) (fun _ => rfl) K (fun x => x) (fun _ _ => True) (fun _ _ h => h) (fun ls st a o ho => qa_ast_inv ho) (fun A cA tys a H locs kc ks LS o i x t0 rest hneg hwf hp hK hP hD hS he ht hin hcl h0 hx kk => by
    refine va_dast C.1 C.2.1 hK hP hD hS _ t0 (f := fun i : Nat => UInt64.ofNat (a.1 o (i : Int)).toNat) he ht hin d ?_
    have e : (fun j : Nat => UInt64.ofNat (qa_up a.1 o i x o (j : Int)).toNat) = vf_upd (fun j : Nat => UInt64.ofNat (a.1 o (j : Int)).toNat) i.toNat (UInt64.ofNat x.toNat) := by
      funext j
      unfold qa_up vf_upd
      by_cases h : j = i.toNat
      · rw [if_pos h, if_pos ⟨rfl, by omega⟩]
      · rw [if_neg h, if_neg (fun z => h (by have := z.2; omega))]
    rw [hcl, ← e]
    exact kk)
theorem q_byte {v : Int} (h : qa_rg v) : vp_nar .byte (Int32.ofInt v) = Int32.ofInt (qa_b v) := by
  have h2 : qa_rg (qa_b v) := by unfold qa_b; exact ⟨by omega, by omega⟩
  have e : vp_nar .byte (Int32.ofInt v) = (Int32.ofInt v).toInt8.toInt32 := rfl
  rw [e]
  apply Int32.toInt_inj.mp
  rw [Int8.toInt_toInt32, Int32.toInt_toInt8, q_i32 h, q_i32 h2]
  unfold qa_b
  rw [Int.bmod_def]
  split <;> omega
theorem ok_bastore (C : qa_C xb Ai p s m args meth c cc nL own A0 R c0 s0 r) {pc : Nat} {k : qI} (d : decode cc pc = .ok (.bastore, 1)) (K : qa_OK p l e R s m args below meth c Q D A0 Ai n0 nL c0 s0 r pcs (pc + 1) k) : qa_OK p l e R s m args below meth c Q D A0 Ai n0 nL c0 s0 r pcs pc (q_bast k) :=
  qa_astg (ty := 102) (t := 0) (by decide) (fun _ => rfl) K qa_b (fun _ _ => True) (fun n x _ => qa_oki (by unfold qa_b; exact ⟨by omega, by omega⟩)) (fun ls st a o ho => by
    unfold q_bast at ho
    split at ho
    · rename_i v i y rs
      split at ho
      · rename_i h
        obtain ⟨h1, h2, h3, h4, h5, h6⟩ := h
        exact ⟨v.2, i.2, y.2, rs, by rw [← qa_eta h1, ← qa_eta h2, ← qa_eta h3], trivial, h4, h5, h6, ho⟩
      · cases ho
    · cases ho) (fun A cA tys a H locs kc ks LS o i x t0 rest hneg hwf hp hK hP hD hS he ht hin hcl h0 hx kk => by
    refine va_bast C.1 C.2.1 hK hP hD hS _ t0 (f := fun i : Nat => Int32.ofInt (a.1 o (i : Int))) he ht hin d ?_
    rw [hcl, q_byte (qa_rgi hx rfl), ← qa_upi h0]
    exact kk)
theorem ok_zastore (C : qa_C xb Ai p s m args meth c cc nL own A0 R c0 s0 r) {pc : Nat} {k : qI} (d : decode cc pc = .ok (.bastore, 1)) (K : qa_OK p l e R s m args below meth c Q D A0 Ai n0 nL c0 s0 r pcs (pc + 1) k) : qa_OK p l e R s m args below meth c Q D A0 Ai n0 nL c0 s0 r pcs pc (q_zast k) :=
  qa_astg (ty := 103) (t := 0) (by decide) (fun _ => rfl) K (fun x => x) (fun _ x => x = 0 ∨ x = 1) (fun _ _ h => h) (fun ls st a o ho => by
    unfold q_zast at ho
    split at ho
    · rename_i v i y rs
      split at ho
      · rename_i h
        obtain ⟨h1, h0, h2, h3, h4, h5, h6⟩ := h
        exact ⟨v.2, i.2, y.2, rs, by rw [← qa_eta h1, ← qa_eta h2, ← qa_eta h3], h0, h4, h5, h6, ho⟩
      · cases ho
    · cases ho) (fun A cA tys a H locs kc ks LS o i x t0 rest hneg hwf hp hK hP hD hS he ht hin hcl h0 hx kk => by
    refine va_zast C.1 C.2.1 hK hP hD hS _ t0 (f := fun i : Nat => Int32.ofInt (a.1 o (i : Int))) he ht hin d ?_
    have e : vp_nar .boolean (Int32.ofInt x) = Int32.ofInt x := by
      rcases hp with rfl | rfl <;> rfl
    rw [hcl, e, ← qa_upi h0]
    exact kk)
theorem ok_aastore (C : qa_C xb Ai p s m args meth c cc nL own A0 R c0 s0 r) {pc ci : Nat} {k : qI} {rC : vw_C} (hci : vwCl[ci]? = some rC) (h99 : ci < 99) (d : decode cc pc = .ok (.aastore, 1)) (K : qa_OK p l e R s m args below meth c Q D A0 Ai n0 nL c0 s0 r pcs (pc + 1) k) : qa_OK p l e R s m args below meth c Q D A0 Ai n0 nL c0 s0 r pcs pc (q_aast ci k) :=
  qa_astg (ty := 111 + ci) (t := 1) (by omega) (fun j => qa_tagr (by omega) j) K (fun x => x) (fun a x => x = -1 ∨ (a.2.1 x).1 = ci + 1) (fun _ _ h => h) (fun ls st a o ho => by
    unfold q_aast at ho
    split at ho
    · rename_i v i y rs
      split at ho
      · rename_i h
        obtain ⟨h1, h0, h2, h3, h4, h5, h6⟩ := h
        exact ⟨v.2, i.2, y.2, rs, by rw [← qa_eta h1, ← qa_eta h2, ← qa_eta h3], h0, h4, h5, h6, ho⟩
      · cases ho
    · cases ho) (fun A cA tys a H locs kc ks LS o i x t0 rest hneg hwf hp hK hP hD hS he ht hin hcl h0 hx kk => by
    rw [qa_arrr (by omega)] at he
    rw [qa_atyr] at ht
    have hcn : qa_cn ci = rC.1 := by unfold qa_cn; rw [hci]
    rw [hcn] at ht
    have e : ∀ w, qa_rf A x = w → (fun j : Nat => qa_rf A (qa_up a.1 o i x o (j : Int))) = va_up (fun j : Nat => qa_rf A (a.1 o (j : Int))) i.toNat w := by
      intro w hw
      funext j
      unfold qa_up va_up
      by_cases h : j = i.toNat
      · rw [if_pos h, if_pos ⟨rfl, by omega⟩, hw]
      · rw [if_neg h, if_neg (fun z => h (by have := z.2; omega))]
    rw [qa_arrr (by omega)] at kk
    by_cases hx1 : x = -1
    · subst hx1
      refine va_astqN C.1 C.2.1 hK hP hD hS _ t0 he ht hin d ?_
      rw [hcl, ← e none rfl]
      exact kk
    · have hxc := hp.resolve_left hx1
      have hb := hwf.2.1 x (by rw [hxc]; omega)
      have hv := qa_ws_get (A := A) (cA := cA) (a := a) hb.1 hb.2
      rw [qa_cls hxc h99] at hv
      rw [qa_v1, qa_rfr hx1]
      refine va_astq C.1 C.2.1 hK hP hD hS _ t0 x.toNat ci he ht hv hci hin d ?_
      rw [hcl, ← e (some (A x)) (by unfold qa_rf; rw [if_neg hx1])]
      exact kk)
theorem ok_alen (C : qa_C xb Ai p s m args meth c cc nL own A0 R c0 s0 r) {pc : Nat} {k : qI} (d : decode cc pc = .ok (.arraylength, 1)) (K : qa_OK p l e R s m args below meth c Q D A0 Ai n0 nL c0 s0 r pcs (pc + 1) k) : qa_OK p l e R s m args below meth c Q D A0 Ai n0 nL c0 s0 r pcs pc (q_alen k) := by
  intro ls st a o ho
  unfold q_alen at ho
  split at ho
  · rename_i ob rs
    split at ho
    · rename_i h
      obtain ⟨h2, h3⟩ := h
      refine ⟨(K _ _ _ _ ho).1, fun g => ?_⟩
      intro A H locs kc ks LS hW hwf hls hst hn hA hS hL hc hs
      obtain ⟨cA, tys, hP, hD, hKK, hT⟩ := hW
      have hb := hwf.2.1 ob.2 (by omega)
      have he := qa_ws_get (A := A) (cA := cA) (a := a) hb.1 hb.2
      rw [qa_arc rfl h3] at he
      obtain ⟨t0, ht0⟩ := hT ob.2 h3
      have hlen := hwf.2.2 ob.2 h3
      have kk := (K _ _ _ _ ho).2 g A H locs kc ks LS ⟨cA, tys, hP, hD, hKK, hT⟩ hwf hls (qa_okl_cons (qa_oki ⟨by omega, by omega⟩) (qa_okl_tl hst)) hn hA hS hL hc hs
      rw [List.map_cons] at kk
      rw [List.map_cons, qa_eta h2, qa_v1, qa_rfr (by omega)]
      refine va_alen C.1 C.2.1 hKK hP _ t0 he ht0 (v := Int32.ofInt (a.2.1 ob.2).2) ?_ d kk
      show Int32.ofInt (((a.2.1 ob.2).2.toNat : Nat) : Int) = _
      rw [qa_nat hlen.1]
    · cases ho
  · cases ho
end QS
