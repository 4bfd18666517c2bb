section QS
variable {p : Program} {l : Launch} {e : Env} {R : Room} {s : State} {m : MethodId} {args : Array Value} {below : List Frame} {meth : Method} {c : Code} {Q : State → Prop} {cc : ByteArray} {nL : Nat} {own : String} {D : va_G} {A0 : Nat → Prop} {Ai : Int → Nat} {xb : Bool} {n0 c0 s0 : Nat} {r : qR} {pcs : Nat → Nat}
theorem ok_ldc (C : qa_C xb Ai p s m args meth c cc nL own A0 R c0 s0 r) {pc index : Nat} {n : Int} {v : Int32} {k : qI} (hn : qa_rg n) (hv : Int32.ofInt n = v) (hw : Cond.constant own index v ∈ qa_tb) (d : decode cc pc = .ok (.ldc index, 2)) (K : qa_OK p l e R s m args below meth c Q D A0 Ai n0 nL c0 s0 r pcs (pc + 2) k) : qa_OK p l e R s m args below meth c Q D A0 Ai n0 nL c0 s0 r pcs pc (q_const (0, n) k) := by
  refine qa_gen K (fun ls st a o ho => ⟨ls, (0, n) :: st, pc + 2, Or.inl ⟨ho, rfl⟩, fun N h1 h2 => ⟨h1, qa_okl_cons (qa_oki hn) h2⟩, fun _ N h1 h2 A H locs kc ks LS hL kk => ?_⟩)
  have kk := kk LS hL
  rw [List.map_cons, qa_v0, hv] at kk
  exact lv_ldc C.1 C.2.1 C.2.2.2.1 (C.2.2.2.2.1 _ hw) d kk
theorem qa_wl1 {w : Cond} (i : Nat) (h : lw_tbl[i]? = some w) (hg : goodWord w = true) : w ∈ qa_tb := List.mem_filter.mpr ⟨List.mem_of_getElem? h, hg⟩
theorem qa_wl {ws : List Cond} (is : List Nat) (h : is.map (fun i => lw_tbl[i]?) = ws.map some) (hg : ws.all goodWord = true) : ∀ w ∈ ws, w ∈ qa_tb := by
  intro w hw
  refine List.mem_filter.mpr ⟨?_, List.all_eq_true.mp hg w hw⟩
  have : some w ∈ is.map (fun i => lw_tbl[i]?) := by rw [h]; exact List.mem_map_of_mem hw
  obtain ⟨i, -, hi⟩ := List.mem_map.mp this
  exact List.mem_of_getElem? hi
theorem qa_thw {ws : List Cond} (h : ws.all (fun w => (decide (w ∈ qa_tb) || decide (w ∈ qa_nest)) && vx_ot w) = true) : ∀ w ∈ ws, (w ∈ qa_tb ∨ w ∈ qa_nest) ∧ vx_ot w = true := by
  intro w hw
  have := List.all_eq_true.mp h w hw
  simpa using this
theorem qa_fit0 (A : Int → Nat) (x : Int) : narrow .int (qa_val A (0, x)) = qa_val A (0, x) ∧ fits .int (qa_val A (0, x)) = true := ⟨rfl, rfl⟩
theorem qa_fito {C : String} (A : Int → Nat) (x : Int) : narrow (.object C) (qa_val A (1, x)) = qa_val A (1, x) ∧ fits (.object C) (qa_val A (1, x)) = true := by
  rw [qa_v1]
  unfold qa_rf
  split <;> exact ⟨rfl, rfl⟩
theorem qa_fita {C : FieldType} (A : Int → Nat) (x : Int) : narrow (.array C) (qa_val A (1, x)) = qa_val A (1, x) ∧ fits (.array C) (qa_val A (1, x)) = true := by
  rw [qa_v1]
  unfold qa_rf
  split <;> exact ⟨rfl, rfl⟩
theorem qa_wf_cp {a : qA} {s d sp dp n : Int} (h : qa_wf a) (hk : (a.2.1 s).1 = (a.2.1 d).1) (h1 : 100 < (a.2.1 d).1) : qa_wf (qa_cp a.1 s sp d dp n, a.2) := by
  refine ⟨fun k i => ?_, h.2.1, h.2.2⟩
  show qa_okv a.2.2.1 (qa_tag (a.2.1 k).1 i, qa_cp a.1 s sp d dp n k i)
  unfold qa_cp
  split
  · rename_i hh
    have := h.1 s (sp + (i - dp))
    rw [hk] at this
    rw [hh.1]
    have e : ∀ j : Int, qa_tag (a.2.1 d).1 j = qa_tag (a.2.1 d).1 0 := by
      intro j
      unfold qa_tag
      simp only [if_neg (show ¬ (a.2.1 d).1 = 0 by omega), if_neg (show ¬ (a.2.1 d).1 < 100 by omega)]
    rw [e i]
    rw [e] at this
    exact this
  · exact h.1 k i
theorem qa_cell_cp {A : Int → Nat} {cA : Int → ClassId} {a : qA} {s d sp dp n k : Int} (h : k ≠ d) : qa_cell A cA (qa_cp a.1 s sp d dp n, a.2) k = qa_cell A cA a k :=
  qa_cell_cong rfl (funext fun i => if_neg (fun z => h z.1))
theorem qa_copy_inv {ty : Nat} {k : qI} {ls st : List qV} {a : qA} {o : qO} (ho : q_copy ty k ls st a = some o) : ∃ n dp d sp s rs, st = (0, n) :: (0, dp) :: (1, d) :: (0, sp) :: (1, s) :: rs ∧ (a.2.1 s).1 = ty ∧ (a.2.1 d).1 = ty ∧ 0 ≤ n ∧ 0 ≤ dp ∧ 0 ≤ sp ∧ sp + n ≤ (a.2.1 s).2 ∧ dp + n ≤ (a.2.1 d).2 ∧ rs.length ≤ 4 ∧ k ls rs (qa_cp a.1 s sp d dp n, a.2) = some o := by
  unfold q_copy at ho
  split at ho
  · rename_i n dp d sp s rs
    split at ho
    · rename_i h
      obtain ⟨h1, h2, h3, h4, h5, h6, h7, h8, h9, h10, h11, h12, h13⟩ := h
      exact ⟨n.2, dp.2, d.2, sp.2, s.2, rs, by rw [← qa_eta h1, ← qa_eta h2, ← qa_eta h3, ← qa_eta h4, ← qa_eta h5], h6, h7, h8, h9, h10, h11, h12, h13, ho⟩
    · cases ho
  · cases ho
theorem qa_copyg (C : qa_C xb Ai p s m args meth c cc nL own A0 R c0 s0 r) {pc ty : Nat} {f k : qI} (h100 : 100 < ty) (P : qA → Int → Int → Int → Prop) (K : qa_OK p l e R s m args below meth c Q D A0 Ai n0 nL c0 s0 r pcs (pc + 3) k)
    (hf : ∀ ls st a o, f ls st a = some o → ∃ n dp d sp s rs, st = (0, n) :: (0, dp) :: (1, d) :: (0, sp) :: (1, s) :: rs ∧ (a.2.1 s).1 = ty ∧ (a.2.1 d).1 = ty ∧ 0 ≤ n ∧ 0 ≤ dp ∧ 0 ≤ sp ∧ sp + n ≤ (a.2.1 s).2 ∧ dp + n ≤ (a.2.1 d).2 ∧ rs.length ≤ 4 ∧ k ls rs (qa_cp a.1 s sp d dp n, a.2) = some o ∧ P a s sp n)
    (hw : ∀ (A : Int → Nat) (cA : Int → ClassId) (tys : List (ClassId × FieldType)) (a : qA) (H : Heap) (locs : List Loc) (kc ks : Nat) (LS : Array Slot) (n dp dd sp ss : Int) (t0 t1 : Nat) (rest : List Value), qa_wf a → P a ss sp n → LS.size = nL → va_K D vwCl tys s → va_P D vwCl (qa_ws A cA a) H → va_D A0 (qa_ws A cA a) → va_S A0 s.heap H locs → (qa_ws A cA a)[ss.toNat]? = some (A ss, .inl (cA ss, (a.2.1 ss).2.toNat, qa_arr A ty (a.1 ss))) → (qa_ws A cA a)[dd.toNat]? = some (A dd, .inl (cA dd, (a.2.1 dd).2.toNat, qa_arr A ty (a.1 dd))) → tys[t0]? = some (cA ss, qa_aty ty) → tys[t1]? = some (cA dd, qa_aty ty) → 0 ≤ n → 0 ≤ dp → 0 ≤ sp → qa_rg n → qa_rg dp → qa_rg sp → sp + n ≤ (a.2.1 ss).2 → dp + n ≤ (a.2.1 dd).2 → 0 ≤ (a.2.1 ss).2 → 0 ≤ (a.2.1 dd).2 → (rest.map fun v => v.category).sum ≤ 8 →
      (∀ (H1 : Heap) (locs1 : List Loc), va_P D vwCl ((qa_ws A cA a).set dd.toNat (A dd, .inl (cA dd, (a.2.1 dd).2.toNat, qa_arr A ty (qa_cp a.1 ss sp dd dp n dd)))) H1 → va_D A0 ((qa_ws A cA a).set dd.toNat (A dd, .inl (cA dd, (a.2.1 dd).2.toNat, qa_arr A ty (qa_cp a.1 ss sp dd dp n dd)))) → va_S A0 s.heap H1 locs1 → W p l e R s m args below meth c H1 locs1 kc ks Q (F0 m (pc + 3) LS rest)) → W p l e R s m args below meth c H locs kc ks Q (F0 m pc LS (.int (Int32.ofInt n) :: .int (Int32.ofInt dp) :: .ref (A dd) :: .int (Int32.ofInt sp) :: .ref (A ss) :: rest))) : qa_OK p l e R s m args below meth c Q D A0 Ai n0 nL c0 s0 r pcs pc f := by
  intro ls st a o ho
  obtain ⟨n, dp, dd, sp, ss, rs, rfl, h6, h7, h8, h9, h10, h11, h12, h13, hk, hp⟩ := hf ls st a o ho
  refine ⟨(K _ _ _ _ hk).1, fun gg => ?_⟩
  intro A H locs kc ks LS hW hwf hls hst hn hA hS hL hc hs
  obtain ⟨cA, tys, hP, hD, hKK, hT⟩ := hW
  have hb := hwf.2.1 ss (by rw [h6]; omega)
  have hb' := hwf.2.1 dd (by rw [h7]; omega)
  have he := qa_ws_get (A := A) (cA := cA) (a := a) hb.1 hb.2
  have he' := qa_ws_get (A := A) (cA := cA) (a := a) hb'.1 hb'.2
  rw [qa_arc h6 h100] at he
  rw [qa_arc h7 h100] at he'
  obtain ⟨t0, ht0⟩ := hT ss (by rw [h6]; exact h100)
  obtain ⟨t1, ht1⟩ := hT dd (by rw [h7]; exact h100)
  rw [h6] at ht0
  rw [h7] at ht1
  have hl0 := hwf.2.2 ss (by rw [h6]; exact h100)
  have hl1 := hwf.2.2 dd (by rw [h7]; exact h100)
  have hset := qa_ws_set (A := A) (cA := cA) (a := a) (a' := (qa_cp a.1 ss sp dd dp n, a.2)) hb'.1 hb'.2 rfl (fun k hk => qa_cell_cp hk)
  rw [qa_arc (a := (qa_cp a.1 ss sp dd dp n, a.2)) h7 h100] at hset
  dsimp only at hset
  have hwf' : qa_wf (qa_cp a.1 ss sp dd dp n, a.2) := qa_wf_cp hwf (h6.trans h7.symm) (by rw [h7]; exact h100)
  have o1 := qa_okl_tl hst
  have o2 := qa_okl_tl (qa_okl_tl o1)
  have o3 := qa_okl_tl o2
  simp only [List.map_cons]
  rw [qa_v1, qa_v1, qa_v0, qa_v0, qa_v0, qa_rfr (show ss ≠ -1 by omega), qa_rfr (show dd ≠ -1 by omega)]
  refine hw A cA tys a H locs kc ks LS n dp dd sp ss t0 t1 _ hwf hp hL.1 hKK hP hD hS he he' ht0 ht1 h8 h9 h10 (qa_rgi (qa_okl_hd hst) rfl) (qa_rgi (qa_okl_hd o1) rfl) (qa_rgi (qa_okl_hd o2) rfl) h11 h12 hl0.1 hl1.1 (qa_cats A rs h13) (fun H1 locs1 hP1 hD1 hS1 => ?_)
  rw [hset] at hP1 hD1
  exact (K _ _ _ _ hk).2 gg A H1 locs1 kc ks LS ⟨cA, tys, hP1, hD1, hKK, hT⟩ hwf' hls (qa_okl_tl o3) hn hA hS1 hL hc hs
theorem qa_cpy {A : Int → Nat} {α : Type} {g : Int → α} {mm : Int → Int → Int} {ss sp dd dp n : Int} (h1 : 0 ≤ sp) (h2 : 0 ≤ dp) (h3 : 0 ≤ n) : (fun j : Nat => g (qa_cp mm ss sp dd dp n dd (j : Int))) = va_cpy (fun j : Nat => g (mm ss (j : Int))) (fun j : Nat => g (mm dd (j : Int))) sp.toNat dp.toNat n.toNat := by
  funext j
  unfold qa_cp va_cpy
  by_cases h : dp.toNat ≤ j ∧ j < dp.toNat + n.toNat
  · rw [if_pos h, if_pos ⟨rfl, by omega, by omega⟩]
    congr 2
    omega
  · rw [if_neg h, if_neg (fun z => h ⟨by have := z.2.1; omega, by have := z.2.2; omega⟩)]
theorem ok_copyi (C : qa_C xb Ai p s m args meth c cc nL own A0 R c0 s0 r) {pc index : Nat} {k : qI} (hw : ∀ w ∈ [Cond.methodLink own index arraycopyName, .native arraycopyName, .static arraycopyName, .initialized "java/lang/System"], w ∈ qa_tb) (hRf : 1 ≤ R.frames) (hRl : 8 + (nativeFrameWords "java/lang/System" "arraycopy" 5 + 11) ≤ R.locals) (d : decode cc pc = .ok (.invokestatic index, 3)) (K : qa_OK p l e R s m args below meth c Q D A0 Ai n0 nL c0 s0 r pcs (pc + 3) k) : qa_OK p l e R s m args below meth c Q D A0 Ai n0 nL c0 s0 r pcs pc (q_copy 101 k) :=
  qa_copyg (ty := 101) C (by decide) (fun _ _ _ _ => True) K (fun ls st a o ho => by
    obtain ⟨n, dp, dd, sp, ss, rs, h⟩ := qa_copy_inv ho
    exact ⟨n, dp, dd, sp, ss, rs, h.1, h.2.1, h.2.2.1, h.2.2.2.1, h.2.2.2.2.1, h.2.2.2.2.2.1, h.2.2.2.2.2.2.1, h.2.2.2.2.2.2.2.1, h.2.2.2.2.2.2.2.2.1, h.2.2.2.2.2.2.2.2.2, trivial⟩)
    (fun A cA tys a H locs kc ks LS n dp dd sp ss t0 t1 rest hwf hp hsz hK hP hD hS he he' ht0 ht1 h8 h9 h10 r1 r2 r3 h11 h12 l0 l1 hcat kk => by
      refine va_copyi C.1 C.2.1 (C.2.2.1.trans hsz.symm) C.2.2.2.1 (C.2.2.2.2.1 _ (hw _ (by simp))) (C.2.2.2.2.1 _ (hw _ (by simp))) (C.2.2.2.2.1 _ (hw _ (by simp))) (C.2.2.2.2.1 _ (hw _ (by simp))) hK hP hD hS _ _ t0 t1 (f := fun i : Nat => Int32.ofInt (a.1 ss (i : Int))) (g := fun i : Nat => Int32.ofInt (a.1 dd (i : Int))) (ty := .int) he he' ht0 ht1 rfl (by rw [q_lt0 r3]; omega) (by rw [q_lt0 r2]; omega) (by rw [q_lt0 r1]; omega) (by rw [q_clamp r3, q_clamp r1]; omega) (by rw [q_clamp r2, q_clamp r1]; omega) (fun _ _ => rfl) hRf (by omega) d ?_
      rw [q_clamp r3, q_clamp r2, q_clamp r1, ← qa_cpy (A := A) (g := Int32.ofInt) h10 h9 h8]
      exact kk)
theorem ok_copyr (C : qa_C xb Ai p s m args meth c cc nL own A0 R c0 s0 r) {pc index ci : Nat} {k : qI} {rC : vw_C} (hci : vwCl[ci]? = some rC) (h99 : ci < 99) (hw : ∀ w ∈ [Cond.methodLink own index arraycopyName, .native arraycopyName, .static arraycopyName, .initialized "java/lang/System"], w ∈ qa_tb) (hRf : 1 ≤ R.frames) (hRl : 8 + (nativeFrameWords "java/lang/System" "arraycopy" 5 + 11) ≤ R.locals) (d : decode cc pc = .ok (.invokestatic index, 3)) (K : qa_OK p l e R s m args below meth c Q D A0 Ai n0 nL c0 s0 r pcs (pc + 3) k) : qa_OK p l e R s m args below meth c Q D A0 Ai n0 nL c0 s0 r pcs pc (q_copyr ci k) :=
  qa_copyg C (ty := 111 + ci) (by omega) (fun a ss sp n => ∀ i : Int, 0 ≤ i → sp ≤ i → i < sp + n → a.1 ss i = -1 ∨ (a.2.1 (a.1 ss i)).1 = ci + 1) K (fun ls st a o ho => by
    unfold q_copyr at ho
    split at ho
    · rename_i n dp dd sp ss rs
      split at ho
      · rename_i h9
        obtain ⟨n', dp', dd', sp', ss', rs', h⟩ := qa_copy_inv ho
        obtain ⟨h0, h⟩ := h
        simp only [List.cons.injEq] at h0
        obtain ⟨rfl, rfl, rfl, rfl, rfl, rfl⟩ := h0
        exact ⟨_, _, _, _, _, _, rfl, h.1, h.2.1, h.2.2.1, h.2.2.2.1, h.2.2.2.2.1, h.2.2.2.2.2.1, h.2.2.2.2.2.2.1, h.2.2.2.2.2.2.2.1, h.2.2.2.2.2.2.2.2, fun i hi h1 h2 => by
          have := h9.1 ⟨i.toNat, by have := h9.2; dsimp only at this; omega⟩
          dsimp only at this
          rw [qa_nat hi] at this
          exact this h1 h2⟩
      · cases ho
    · cases ho)
    (fun A cA tys a H locs kc ks LS n dp dd sp ss t0 t1 rest hwf hp hsz hK hP hD hS he he' ht0 ht1 h8 h9 h10 r1 r2 r3 h11 h12 l0 l1 hcat kk => by
      rw [qa_arrr (by omega)] at he he'
      rw [qa_atyr] at ht0 ht1
      have hcn : qa_cn ci = rC.1 := by unfold qa_cn; rw [hci]
      rw [hcn] at ht0 ht1
      refine va_copyq (C := rC.1) C.1 C.2.1 (C.2.2.1.trans hsz.symm) C.2.2.2.1 (C.2.2.2.2.1 _ (hw _ (by simp))) (C.2.2.2.2.1 _ (hw _ (by simp))) (C.2.2.2.2.1 _ (hw _ (by simp))) (C.2.2.2.2.1 _ (hw _ (by simp))) hK hP hD hS _ _ t0 t1 he he' ht0 ht1 (by rw [q_lt0 r3]; omega) (by rw [q_lt0 r2]; omega) (by rw [q_lt0 r1]; omega) (by rw [q_clamp r3, q_clamp r1]; omega) (by rw [q_clamp r2, q_clamp r1]; omega) (fun i hi y hy => ?_) (fun comp c9 e1 e2 => ?_) hRf (by omega) d ?_
      · rw [q_clamp r1] at hi
        rw [q_clamp r3] at hy
        have h := hp ((sp.toNat + i : Nat) : Int) (by omega) (by omega) (by omega)
        unfold qa_rf at hy
        split at hy
        · cases hy
        · rename_i hne
          cases hy
          have hk := h.resolve_left hne
          have hb := hwf.2.1 _ (by rw [hk]; omega)
          have he2 := qa_ws_get (A := A) (cA := cA) (a := a) hb.1 hb.2
          rw [qa_cls hk h99] at he2
          exact va_recv hK hP hci he2
      · cases e1.symm.trans e2
        exact va_asg _ _
      · rw [qa_arrr (by omega)] at kk
        rw [q_clamp r3, q_clamp r2, q_clamp r1, ← qa_cpy (A := A) (g := qa_rf A) h10 h9 h8]
        exact kk)
end QS
