abbrev qV : Type := Nat × Int
abbrev qA : Type := (Int → Int → Int) × (Int → Nat × Int) × Nat × Nat × Nat
abbrev qR : Type := (Option qV ⊕ Nat) × qA
abbrev qO : Type := (Nat × List qV × List qV × qA) ⊕ qR
abbrev qI : Type := List qV → List qV → qA → Option qO
abbrev qa_rg (v : Int) : Prop := -2147483648 ≤ v ∧ v < 2147483648
def qa_up (mm : Int → Int → Int) (s i v : Int) : Int → Int → Int := fun s' i' => if s' = s ∧ i' = i then v else mm s' i'
def qa_free (ls : List qV) (i : Nat) : Bool := match i with
  | 0 => true
  | j + 1 => match ls[j]? with
    | some v => !(v.1 == 2 || v.1 == 4)
    | none => true
def q_const (v : qV) (k : qI) : qI := fun ls st a => k ls (v :: st) a
def q_load (t i : Nat) (k : qI) : qI := fun ls st a => match ls[i]? with
  | some v => if v.1 = t then k ls ((t, v.2) :: st) a else none
  | none => none
def q_store (t i : Nat) (k : qI) : qI := fun ls st a => match st with
  | v :: r => if v.1 = t ∧ qa_free ls i = true ∧ i < ls.length then k (ls.set i (t, v.2)) r a else none
  | _ => none
def q_iinc (i : Nat) (n : Int) (k : qI) : qI := fun ls st a => match ls[i]? with
  | some v => if v.1 = 0 ∧ qa_rg (v.2 + n) ∧ qa_free ls i = true then k (ls.set i (0, v.2 + n)) st a else none
  | none => none
def q_iadd (k : qI) : qI := fun ls st a => match st with
  | y :: x :: r => if x.1 = 0 ∧ y.1 = 0 ∧ qa_rg (x.2 + y.2) then k ls ((0, x.2 + y.2) :: r) a else none
  | _ => none
def q_isub (k : qI) : qI := fun ls st a => match st with
  | y :: x :: r => if x.1 = 0 ∧ y.1 = 0 ∧ qa_rg (x.2 - y.2) then k ls ((0, x.2 - y.2) :: r) a else none
  | _ => none
def q_imul (k : qI) : qI := fun ls st a => match st with
  | y :: x :: r => if x.1 = 0 ∧ y.1 = 0 ∧ qa_rg (x.2 * y.2) then k ls ((0, x.2 * y.2) :: r) a else none
  | _ => none
def q_idiv (k : qI) : qI := fun ls st a => match st with
  | y :: x :: r => if x.1 = 0 ∧ y.1 = 0 ∧ 0 ≤ x.2 ∧ 0 < y.2 then k ls ((0, x.2 / y.2) :: r) a else none
  | _ => none
def q_irem (k : qI) : qI := fun ls st a => match st with
  | y :: x :: r => if x.1 = 0 ∧ y.1 = 0 ∧ 0 ≤ x.2 ∧ 0 < y.2 then k ls ((0, x.2 % y.2) :: r) a else none
  | _ => none
def q_ineg (k : qI) : qI := fun ls st a => match st with
  | x :: r => if x.1 = 0 ∧ qa_rg (-x.2) then k ls ((0, -x.2) :: r) a else none
  | _ => none
def q_dup (k : qI) : qI := fun ls st a => match st with
  | x :: r => if x.1 < 2 then k ls (x :: x :: r) a else none
  | _ => none
def q_dup_x1 (k : qI) : qI := fun ls st a => match st with
  | x :: y :: r => if x.1 < 2 ∧ y.1 < 2 then k ls (x :: y :: x :: r) a else none
  | _ => none
def q_dup2 (k : qI) : qI := fun ls st a => match st with
  | x :: y :: r => if x.1 < 2 ∧ y.1 < 2 then k ls (x :: y :: x :: y :: r) a else none
  | _ => none
def q_pop (k : qI) : qI := fun ls st a => match st with
  | x :: r => if x.1 < 2 then k ls r a else none
  | _ => none
def q_goto (T : Nat) : qI := fun ls st a => some (.inl (T, ls, st, a))
def q_ifeq (T : Nat) (k : qI) : qI := fun ls st a => match st with
  | x :: r => if x.1 = 0 then (if x.2 = 0 then some (.inl (T, ls, r, a)) else k ls r a) else none
  | _ => none
def q_ifne (T : Nat) (k : qI) : qI := fun ls st a => match st with
  | x :: r => if x.1 = 0 then (if x.2 = 0 then k ls r a else some (.inl (T, ls, r, a))) else none
  | _ => none
def q_iflt (T : Nat) (k : qI) : qI := fun ls st a => match st with
  | x :: r => if x.1 = 0 then (if x.2 < 0 then some (.inl (T, ls, r, a)) else k ls r a) else none
  | _ => none
def q_ifge (T : Nat) (k : qI) : qI := fun ls st a => match st with
  | x :: r => if x.1 = 0 then (if x.2 < 0 then k ls r a else some (.inl (T, ls, r, a))) else none
  | _ => none
def q_ifgt (T : Nat) (k : qI) : qI := fun ls st a => match st with
  | x :: r => if x.1 = 0 then (if 0 < x.2 then some (.inl (T, ls, r, a)) else k ls r a) else none
  | _ => none
def q_ifle (T : Nat) (k : qI) : qI := fun ls st a => match st with
  | x :: r => if x.1 = 0 then (if 0 < x.2 then k ls r a else some (.inl (T, ls, r, a))) else none
  | _ => none
def q_cmpeq (T : Nat) (k : qI) : qI := fun ls st a => match st with
  | y :: x :: r => if x.1 = 0 ∧ y.1 = 0 then (if x.2 = y.2 then some (.inl (T, ls, r, a)) else k ls r a) else none
  | _ => none
def q_cmpne (T : Nat) (k : qI) : qI := fun ls st a => match st with
  | y :: x :: r => if x.1 = 0 ∧ y.1 = 0 then (if x.2 = y.2 then k ls r a else some (.inl (T, ls, r, a))) else none
  | _ => none
def q_cmplt (T : Nat) (k : qI) : qI := fun ls st a => match st with
  | y :: x :: r => if x.1 = 0 ∧ y.1 = 0 then (if x.2 < y.2 then some (.inl (T, ls, r, a)) else k ls r a) else none
  | _ => none
def q_cmpge (T : Nat) (k : qI) : qI := fun ls st a => match st with
  | y :: x :: r => if x.1 = 0 ∧ y.1 = 0 then (if x.2 < y.2 then k ls r a else some (.inl (T, ls, r, a))) else none
  | _ => none
def q_cmpgt (T : Nat) (k : qI) : qI := fun ls st a => match st with
  | y :: x :: r => if x.1 = 0 ∧ y.1 = 0 then (if y.2 < x.2 then some (.inl (T, ls, r, a)) else k ls r a) else none
  | _ => none
def q_cmple (T : Nat) (k : qI) : qI := fun ls st a => match st with
  | y :: x :: r => if x.1 = 0 ∧ y.1 = 0 then (if y.2 < x.2 then k ls r a else some (.inl (T, ls, r, a))) else none
  | _ => none
def q_null (T : Nat) (k : qI) : qI := fun ls st a => match st with
  | x :: r => if x.1 = 1 then (if x.2 = -1 then some (.inl (T, ls, r, a)) else k ls r a) else none
  | _ => none
def q_nonnull (T : Nat) (k : qI) : qI := fun ls st a => match st with
  | x :: r => if x.1 = 1 then (if x.2 = -1 then k ls r a else some (.inl (T, ls, r, a))) else none
  | _ => none
def q_acmpeq (T : Nat) (k : qI) : qI := fun ls st a => match st with
  | y :: x :: r => if x.1 = 1 ∧ y.1 = 1 ∧ -1 ≤ x.2 ∧ -1 ≤ y.2 then (if x.2 = y.2 then some (.inl (T, ls, r, a)) else k ls r a) else none
  | _ => none
def q_acmpne (T : Nat) (k : qI) : qI := fun ls st a => match st with
  | y :: x :: r => if x.1 = 1 ∧ y.1 = 1 ∧ -1 ≤ x.2 ∧ -1 ≤ y.2 then (if x.2 = y.2 then k ls r a else some (.inl (T, ls, r, a))) else none
  | _ => none
def q_switch (lo : Int) (Ts : List Nat) (dT : Nat) : qI := fun ls st a => match st with
  | x :: r => if x.1 = 0 then some (.inl ((if x.2 < lo then dT else Ts.getD (x.2 - lo).toNat dT), ls, r, a)) else none
  | _ => none
def q_get (ci j t : Nat) (k : qI) : qI := fun ls st a => match st with
  | o :: r => if o.1 = 1 ∧ (a.2.1 o.2).1 = ci + 1 then k ls ((t, a.1 o.2 j) :: r) a else none
  | _ => none
def q_put (ci j t : Nat) (k : qI) : qI := fun ls st a => match st with
  | v :: o :: r => if v.1 = t ∧ o.1 = 1 ∧ (a.2.1 o.2).1 = ci + 1 then k ls r (qa_up a.1 o.2 j v.2, a.2) else none
  | _ => none
def q_putz (ci j : Nat) (k : qI) : qI := fun ls st a => match st with
  | v :: o :: r => if v.1 = 0 ∧ (v.2 = 0 ∨ v.2 = 1) ∧ o.1 = 1 ∧ (a.2.1 o.2).1 = ci + 1 then k ls r (qa_up a.1 o.2 j v.2, a.2) else none
  | _ => none
def q_ald (ty t : Nat) (k : qI) : qI := fun ls st a => match st with
  | i :: o :: r => if i.1 = 0 ∧ o.1 = 1 ∧ (a.2.1 o.2).1 = ty ∧ 0 ≤ i.2 ∧ i.2 < (a.2.1 o.2).2 then k ls ((t, a.1 o.2 i.2) :: r) a else none
  | _ => none
def q_ast (ty t : Nat) (k : qI) : qI := fun ls st a => match st with
  | v :: i :: o :: r => if v.1 = t ∧ i.1 = 0 ∧ o.1 = 1 ∧ (a.2.1 o.2).1 = ty ∧ 0 ≤ i.2 ∧ i.2 < (a.2.1 o.2).2 then k ls r (qa_up a.1 o.2 i.2 v.2, a.2) else none
  | _ => none
def qa_b (v : Int) : Int := (v + 128) % 256 - 128
def q_bast (k : qI) : qI := fun ls st a => match st with
  | v :: i :: o :: r => if v.1 = 0 ∧ i.1 = 0 ∧ o.1 = 1 ∧ (a.2.1 o.2).1 = 102 ∧ 0 ≤ i.2 ∧ i.2 < (a.2.1 o.2).2 then k ls r (qa_up a.1 o.2 i.2 (qa_b v.2), a.2) else none
  | _ => none
def q_zast (k : qI) : qI := fun ls st a => match st with
  | v :: i :: o :: r => if v.1 = 0 ∧ (v.2 = 0 ∨ v.2 = 1) ∧ i.1 = 0 ∧ o.1 = 1 ∧ (a.2.1 o.2).1 = 103 ∧ 0 ≤ i.2 ∧ i.2 < (a.2.1 o.2).2 then k ls r (qa_up a.1 o.2 i.2 v.2, a.2) else none
  | _ => none
def q_aast (ci : Nat) (k : qI) : qI := fun ls st a => match st with
  | v :: i :: o :: r => if v.1 = 1 ∧ (v.2 = -1 ∨ (a.2.1 v.2).1 = ci + 1) ∧ i.1 = 0 ∧ o.1 = 1 ∧ (a.2.1 o.2).1 = 111 + ci ∧ 0 ≤ i.2 ∧ i.2 < (a.2.1 o.2).2 then k ls r (qa_up a.1 o.2 i.2 v.2, a.2) else none
  | _ => none
def q_alen (k : qI) : qI := fun ls st a => match st with
  | o :: r => if o.1 = 1 ∧ 100 < (a.2.1 o.2).1 then k ls ((0, (a.2.1 o.2).2) :: r) a else none
  | _ => none
def qa_new (a : qA) (kd : Nat × Int) (z : Int → Int) (w : Nat) : qA := (fun s i => if s = (a.2.2.1 : Int) then z i else a.1 s i, fun s => if s = (a.2.2.1 : Int) then kd else a.2.1 s, a.2.2.1 + 1, a.2.2.2.1 + 1, a.2.2.2.2 + w)
def q_new (ci w : Nat) (z : Int → Int) (k : qI) : qI := fun ls st a => k ls ((1, (a.2.2.1 : Int)) :: st) (qa_new a (ci + 1, 0) z w)
def q_newa (ty : Nat) (z : Int) (k : qI) : qI := fun ls st a => match st with
  | n :: r => if n.1 = 0 ∧ 0 ≤ n.2 ∧ n.2 ≤ 60000000 then k ls ((1, (a.2.2.1 : Int)) :: r) (qa_new a (ty, n.2) (fun _ => z) n.2.toNat) else none
  | _ => none
def q_call (f : List qV → qA → Option qR) (nP : Nat) (k : qI) : qI := fun ls st a => if nP ≤ st.length ∧ ((st.drop nP).length ≤ 4 ∨ ((st.drop nP).length ≤ 8 ∧ ∀ v ∈ st.drop nP, v.1 < 2)) then
    match f (st.take nP).reverse a with
    | some (.inl (some v), a') => k ls (v :: st.drop nP) a'
    | some (.inl none, a') => k ls (st.drop nP) a'
    | some (.inr E, a') => some (.inr (.inr E, a'))
    | none => none
  else none
def q_callv (ci : Nat) (f : List qV → qA → Option qR) (nP : Nat) (k : qI) : qI := fun ls st a => match st[nP - 1]? with
  | some v => if v.1 = 1 ∧ (a.2.1 v.2).1 = ci + 1 ∧ 1 ≤ nP then q_call f nP k ls st a else none
  | none => none
def q_obj (k : qI) : qI := fun ls st a => match st with
  | v :: r => if v.1 = 1 ∧ v.2 ≠ -1 ∧ r.length ≤ 4 then k ls r a else none
  | _ => none
def q_ret (t : Nat) : qI := fun _ st a => match st with
  | v :: [] => if v.1 = t then some (.inr (.inl (some (t, v.2)), a)) else none
  | _ => none
def q_vret : qI := fun _ st a => match st with
  | [] => some (.inr (.inl none, a))
  | _ => none
def q_throw (E : Nat) : qI := fun _ _ a => some (.inr (.inr E, (a.1, a.2.1, a.2.2.1, a.2.2.2.1 + 1, a.2.2.2.2 + 6)))
abbrev qP : Type := List qI
def qa_run (P : qP) : Nat → Nat → List qV → List qV → qA → Option qR
  | 0, _, _, _, _ => none
  | n + 1, j, ls, st, a => match P[j]? with
    | none => none
    | some f => match f ls st a with
      | none => none
      | some (.inl (j', ls', st', a')) => qa_run P n j' ls' st' a'
      | some (.inr r) => some r
theorem qa_run_mono (P : qP) : ∀ (n : Nat) (j : Nat) (ls st : List qV) (a : qA) (r : qR), qa_run P n j ls st a = some r → ∀ m, n ≤ m → qa_run P m j ls st a = some r := by
  intro n
  induction n with
  | zero => intro j ls st a r h; cases h
  | succ n ih =>
    intro j ls st a r h m hm
    obtain ⟨m, rfl⟩ : ∃ z, m = z + 1 := ⟨m - 1, by omega⟩
    simp only [qa_run] at h ⊢
    cases hf : P[j]? with
    | none => rw [hf] at h; cases h
    | some f =>
      rw [hf] at h
      dsimp only at h ⊢
      cases ho : f ls st a with
      | none => rw [ho] at h; cases h
      | some o =>
        rw [ho] at h
        cases o with
        | inl q => exact ih _ _ _ _ _ h m (by omega)
        | inr q => exact h
theorem qa_run_det {P : qP} {n m j : Nat} {ls st : List qV} {a : qA} {r r' : qR} (h : qa_run P n j ls st a = some r) (h' : qa_run P m j ls st a = some r') : r = r' := by
  have h1 := qa_run_mono P n j ls st a r h (max n m) (Nat.le_max_left _ _)
  have h2 := qa_run_mono P m j ls st a r' h' (max n m) (Nat.le_max_right _ _)
  exact Option.some.inj (h1.symm.trans h2)
noncomputable def qa_ev (P : qP) (j : Nat) (ls st : List qV) (a : qA) : Option qR := by
  classical
  exact if h : ∃ r n, qa_run P n j ls st a = some r then some h.choose else none
theorem qa_ev_some {P : qP} {j : Nat} {ls st : List qV} {a : qA} {r : qR} : qa_ev P j ls st a = some r ↔ ∃ n, qa_run P n j ls st a = some r := by
  classical
  unfold qa_ev
  constructor
  · intro h
    split at h
    · rename_i hh
      obtain ⟨n, hn⟩ := hh.choose_spec
      exact ⟨n, by rw [hn]; exact h⟩
    · cases h
  · rintro ⟨n, hn⟩
    have hh : ∃ r n, qa_run P n j ls st a = some r := ⟨r, n, hn⟩
    rw [dif_pos hh]
    obtain ⟨m, hm⟩ := hh.choose_spec
    rw [qa_run_det hm hn]
noncomputable def qa_go (P : qP) : Option qO → Option qR
  | none => none
  | some (.inl (j, ls, st, a)) => qa_ev P j ls st a
  | some (.inr r) => some r
theorem qa_ev_eq (P : qP) (j : Nat) (ls st : List qV) (a : qA) {f : qI} (hf : P[j]? = some f) : qa_ev P j ls st a = qa_go P (f ls st a) := by
  have key : ∀ r, qa_ev P j ls st a = some r ↔ qa_go P (f ls st a) = some r := by
    intro r
    rw [qa_ev_some]
    constructor
    · rintro ⟨n, hn⟩
      cases n with
      | zero => cases hn
      | succ n =>
        simp only [qa_run, hf] at hn
        cases ho : f ls st a with
        | none => rw [ho] at hn; cases hn
        | some o =>
          rw [ho] at hn
          cases o with
          | inl q => exact qa_ev_some.mpr ⟨n, hn⟩
          | inr q => exact hn
    · intro h
      cases ho : f ls st a with
      | none => rw [ho] at h; cases h
      | some o =>
        rw [ho] at h
        cases o with
        | inl q =>
          obtain ⟨n, hn⟩ := qa_ev_some.mp h
          exact ⟨n + 1, by simp only [qa_run, hf, ho]; exact hn⟩
        | inr q => exact ⟨1, by simp only [qa_run, hf, ho]; exact h⟩
  cases h1 : qa_ev P j ls st a with
  | some r => exact ((key r).mp h1).symm
  | none =>
    cases h2 : qa_go P (f ls st a) with
    | none => rfl
    | some r => rw [(key r).mpr h2] at h1; cases h1
noncomputable def qa_fn (P : qP) (L : Nat) (args : List qV) (a : qA) : Option qR := match qa_ev P 0 (args ++ List.replicate (L - args.length) (9, 0)) [] a with
  | some r => if a.2.2.1 ≤ r.2.2.2.1 ∧ a.2.2.2.1 ≤ r.2.2.2.2.1 ∧ a.2.2.2.2 ≤ r.2.2.2.2.2 ∧ args.length ≤ L ∧ ∀ v ∈ args, v.1 < 2 then some r else none
  | none => none
def qa_sg (u : Int) : Int := if u < 2147483648 then u else u - 4294967296
def q_iand (k : qI) : qI := fun ls st a => match st with
  | y :: x :: r => if x.1 = 0 ∧ y.1 = 0 ∧ (y.2 = 63 ∨ y.2 = 255) then k ls ((0, x.2 % (y.2 + 1)) :: r) a else none
  | _ => none
def q_ishr (k : qI) : qI := fun ls st a => match st with
  | y :: x :: r => if x.1 = 0 ∧ y.1 = 0 ∧ (y.2 = 0 ∨ y.2 = 8 ∨ y.2 = 16 ∨ y.2 = 24) then k ls ((0, x.2 / 2 ^ y.2.toNat) :: r) a else none
  | _ => none
def q_iushr (k : qI) : qI := fun ls st a => match st with
  | y :: x :: r => if x.1 = 0 ∧ y.1 = 0 ∧ (y.2 = 0 ∨ y.2 = 8 ∨ y.2 = 16 ∨ y.2 = 24) then k ls ((0, qa_sg (x.2 % 4294967296 / 2 ^ y.2.toNat)) :: r) a else none
  | _ => none
def q_i2b (k : qI) : qI := fun ls st a => match st with
  | x :: r => if x.1 = 0 then k ls ((0, qa_b x.2) :: r) a else none
  | _ => none
def q_i2l (k : qI) : qI := fun ls st a => match st with
  | x :: r => if x.1 = 0 then k ls ((2, x.2) :: r) a else none
  | _ => none
def q_lcmp (k : qI) : qI := fun ls st a => match st with
  | y :: x :: r => if x.1 = 2 ∧ y.1 = 2 then k ls ((0, if x.2 < y.2 then -1 else if x.2 = y.2 then 0 else 1) :: r) a else none
  | _ => none
def q_max (k : qI) : qI := fun ls st a => match st with
  | y :: x :: r => if x.1 = 0 ∧ y.1 = 0 ∧ r.length ≤ 4 then k ls ((0, if x.2 < y.2 then y.2 else x.2) :: r) a else none
  | _ => none
def q_min (k : qI) : qI := fun ls st a => match st with
  | y :: x :: r => if x.1 = 0 ∧ y.1 = 0 ∧ r.length ≤ 4 then k ls ((0, if y.2 < x.2 then y.2 else x.2) :: r) a else none
  | _ => none
def qa_cp (mm : Int → Int → Int) (s sp d dp n : Int) : Int → Int → Int := fun s' i => if s' = d ∧ dp ≤ i ∧ i < dp + n then mm s (sp + (i - dp)) else mm s' i
def q_copy (ty : Nat) (k : qI) : qI := fun ls st a => match st with
  | n :: dp :: d :: sp :: s :: r => if n.1 = 0 ∧ dp.1 = 0 ∧ d.1 = 1 ∧ sp.1 = 0 ∧ s.1 = 1 ∧ (a.2.1 s.2).1 = ty ∧ (a.2.1 d.2).1 = ty ∧ 0 ≤ n.2 ∧ 0 ≤ dp.2 ∧ 0 ≤ sp.2 ∧ sp.2 + n.2 ≤ (a.2.1 s.2).2 ∧ dp.2 + n.2 ≤ (a.2.1 d.2).2 ∧ r.length ≤ 4 then k ls r (qa_cp a.1 s.2 sp.2 d.2 dp.2 n.2, a.2) else none
  | _ => none
def q_copyr (ci : Nat) (k : qI) : qI := fun ls st a => match st with
  | n :: dp :: d :: sp :: s :: r => if (∀ i : Fin 100000, sp.2 ≤ (i.val : Int) → (i.val : Int) < sp.2 + n.2 → a.1 s.2 (i.val : Int) = -1 ∨ (a.2.1 (a.1 s.2 (i.val : Int))).1 = ci + 1) ∧ sp.2 + n.2 ≤ 100000 then q_copy (111 + ci) k ls st a else none
  | _ => none
def q_lookup (ks : List (Int × Nat)) (dT : Nat) : qI := fun ls st a => match st with
  | x :: r => if x.1 = 0 then some (.inl (((ks.find? (fun q => q.1 == x.2)).map (fun q => q.2)).getD dT, ls, r, a)) else none
  | _ => none
def q_i2f (k : qI) : qI := fun ls st a => match st with
  | x :: r => if x.1 = 0 then k ls ((3, ((FP.i2f (Int32.ofInt x.2)).toNat : Int)) :: r) a else none
  | _ => none
def q_i2d (k : qI) : qI := fun ls st a => match st with
  | x :: r => if x.1 = 0 then k ls ((4, ((FP.i2d (Int32.ofInt x.2)).toNat : Int)) :: r) a else none
  | _ => none
def q_f2d (k : qI) : qI := fun ls st a => match st with
  | x :: r => if x.1 = 3 ∧ (FP.f2d (UInt32.ofNat x.2.toNat)) &&& 0x7fffffffffffffff ≤ 0x7ff0000000000000 then k ls ((4, ((FP.f2d (UInt32.ofNat x.2.toNat)).toNat : Int)) :: r) a else none
  | _ => none
def q_fdiv (k : qI) : qI := fun ls st a => match st with
  | y :: x :: r => if x.1 = 3 ∧ y.1 = 3 ∧ (FP.fdiv (UInt32.ofNat x.2.toNat) (UInt32.ofNat y.2.toNat)) &&& 0x7fffffff ≤ 0x7f800000 then k ls ((3, ((FP.fdiv (UInt32.ofNat x.2.toNat) (UInt32.ofNat y.2.toNat)).toNat : Int)) :: r) a else none
  | _ => none
def q_ddiv (k : qI) : qI := fun ls st a => match st with
  | y :: x :: r => if x.1 = 4 ∧ y.1 = 4 ∧ (FP.ddiv (UInt64.ofNat x.2.toNat) (UInt64.ofNat y.2.toNat)) &&& 0x7fffffffffffffff ≤ 0x7ff0000000000000 then k ls ((4, ((FP.ddiv (UInt64.ofNat x.2.toNat) (UInt64.ofNat y.2.toNat)).toNat : Int)) :: r) a else none
  | _ => none
def q_dcmpl (k : qI) : qI := fun ls st a => match st with
  | y :: x :: r => if x.1 = 4 ∧ y.1 = 4 then k ls ((0, (Op.cmpValue (FP.dcmp (UInt64.ofNat x.2.toNat) (UInt64.ofNat y.2.toNat)) .l).toInt) :: r) a else none
  | _ => none
