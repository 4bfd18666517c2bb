theorem fp_c64 : FP.Core.b64.tails = 4503599627370496 ∧ FP.Core.b64.exps = 2048 ∧ FP.Core.b64.qmin = -1074 ∧ FP.Core.b64.qmax = 971 ∧ 2 ^ FP.Core.b64.p = 9007199254740992 ∧ FP.Core.b64.p = 53 := by decide
theorem fp_fin64 (s : Bool) (c : Nat) (q : Int) (h1 : c < 9007199254740992) (h2 : -1074 ≤ q ∧ q ≤ 971) : FP.Core.encode FP.Core.b64 (.fin s c q) < 18446744073709551616 ∧ FP.Core.encode FP.Core.b64 (.fin s c q) % 9223372036854775808 < 9218868437227405312 ∧ (c ≠ 0 → FP.Core.encode FP.Core.b64 (.fin s c q) % 9223372036854775808 ≠ 0) := by
  obtain ⟨e1, e2, e3, e4, e5, e6⟩ := fp_c64
  have hs : s.toNat = 0 ∨ s.toNat = 1 := by cases s <;> simp
  simp only [FP.Core.encode, FP.Core.assemble, e1, e2, e3]
  split
  · refine ⟨by omega, by omega, fun _ => by omega⟩
  · refine ⟨by omega, by omega, fun _ => by omega⟩
theorem fp_inf64 (s : Bool) : FP.Core.encode FP.Core.b64 (.inf s) < 18446744073709551616 ∧ FP.Core.encode FP.Core.b64 (.inf s) % 9223372036854775808 ≤ 9218868437227405312 := by
  cases s <;> decide
theorem fp_set64 (s : Bool) (c : Nat) (q : Int) (hq : -1074 ≤ q) : FP.Core.encode FP.Core.b64 (FP.Core.settle FP.Core.b64 s c q) < 18446744073709551616 ∧ FP.Core.encode FP.Core.b64 (FP.Core.settle FP.Core.b64 s c q) % 9223372036854775808 ≤ 9218868437227405312 := by
  obtain ⟨e1, e2, e3, e4, e5, e6⟩ := fp_c64
  unfold FP.Core.settle FP.Core.bound
  rw [e5, e4, e1]
  split
  · split
    · have h := fp_fin64 s c q (by omega) ⟨hq, by omega⟩
      exact ⟨h.1, by omega⟩
    · exact fp_inf64 s
  · split
    · have h := fp_fin64 s 4503599627370496 (q + 1) (by decide) ⟨by omega, by omega⟩
      exact ⟨h.1, by omega⟩
    · exact fp_inf64 s
theorem fp_rr64 (s : Bool) (num den : Nat) (e : Int) : FP.Core.encode FP.Core.b64 (FP.Core.roundRatio FP.Core.b64 s num den e) < 18446744073709551616 ∧ FP.Core.encode FP.Core.b64 (FP.Core.roundRatio FP.Core.b64 s num den e) % 9223372036854775808 ≤ 9218868437227405312 := by
  obtain ⟨e1, e2, e3, e4, e5, e6⟩ := fp_c64
  unfold FP.Core.roundRatio FP.Core.roundAt
  split
  · rw [e3]
    have h := fp_fin64 s 0 (-1074) (by decide) (by decide)
    exact ⟨h.1, by omega⟩
  · refine fp_set64 s _ _ ?_
    unfold FP.Core.quantum
    rw [e3]
    exact Int.le_max_left _ _
theorem fp_int64 (i : Int) (hi : i.natAbs < 9007199254740992) : FP.Core.fromInt FP.Core.b64 i < 18446744073709551616 ∧ FP.Core.fromInt FP.Core.b64 i % 9223372036854775808 < 9218868437227405312 ∧ (i ≠ 0 → FP.Core.fromInt FP.Core.b64 i % 9223372036854775808 ≠ 0) := by
  obtain ⟨e1, e2, e3, e4, e5, e6⟩ := fp_c64
  unfold FP.Core.fromInt FP.Core.ofInt FP.Core.round FP.Core.roundRatio FP.Core.roundAt
  dsimp only
  by_cases h0 : i.natAbs = 0
  · rw [if_pos h0, e3]
    have h := fp_fin64 (decide (i < 0)) 0 (-1074) (by decide) (by decide)
    exact ⟨h.1, h.2.1, fun hz => by omega⟩
  · rw [if_neg h0]
    have hl : i.natAbs.log2 < 53 := (Nat.log2_lt h0).mpr (by omega)
    have hq : -1074 ≤ FP.Core.quantum FP.Core.b64 i.natAbs 1 0 ∧ FP.Core.quantum FP.Core.b64 i.natAbs 1 0 ≤ 0 := by
      unfold FP.Core.quantum FP.Core.leading
      rw [e3, e6]
      have l1 : Nat.log2 1 = 0 := by decide
      dsimp only
      rw [l1]
      split <;> omega
    generalize FP.Core.quantum FP.Core.b64 i.natAbs 1 0 = q at hq
    have hu : FP.Core.nearest (FP.Core.unitsNum i.natAbs 0 q) (FP.Core.unitsDen 1 0 q) = FP.Core.unitsNum i.natAbs 0 q := by
      unfold FP.Core.unitsDen FP.Core.nearest
      have : (q - 0).toNat = 0 := by omega
      rw [this, Nat.pow_zero, Nat.mul_one, Nat.mod_one, Nat.div_one]
      rfl
    have hp : FP.Core.unitsNum i.natAbs 0 q ≠ 0 := by
      unfold FP.Core.unitsNum
      have := Nat.two_pow_pos (0 - q).toNat
      have h1 : 0 < i.natAbs := by omega
      have := Nat.mul_pos h1 this
      omega
    rw [hu]
    generalize FP.Core.unitsNum i.natAbs 0 q = c at hp
    unfold FP.Core.settle FP.Core.bound
    rw [e5, e4, e1]
    split
    · rw [if_pos (by omega)]
      have h := fp_fin64 (decide (i < 0)) c q (by omega) ⟨hq.1, by omega⟩
      exact ⟨h.1, h.2.1, fun _ => h.2.2 hp⟩
    · rw [if_pos (by omega)]
      have h := fp_fin64 (decide (i < 0)) 4503599627370496 (q + 1) (by decide) ⟨by omega, by omega⟩
      exact ⟨h.1, h.2.1, fun _ => h.2.2 (by decide)⟩
theorem fp_dec64 (n : Nat) (h : n % 9223372036854775808 ≤ 9218868437227405312) : FP.Core.decode FP.Core.b64 n ≠ .nan := by
  obtain ⟨e1, e2, e3, e4, e5, e6⟩ := fp_c64
  unfold FP.Core.decode FP.Core.fieldE FP.Core.fieldT
  rw [e1, e2]
  split
  · rw [if_pos (by omega)]
    intro z; cases z
  · split <;> (intro z; cases z)
theorem fp_decF64 (n : Nat) (h : n % 9223372036854775808 < 9218868437227405312) : ∃ s c q, FP.Core.decode FP.Core.b64 n = .fin s c q ∧ (n % 9223372036854775808 ≠ 0 → c ≠ 0) := by
  obtain ⟨e1, e2, e3, e4, e5, e6⟩ := fp_c64
  unfold FP.Core.decode FP.Core.fieldE FP.Core.fieldT
  rw [e1, e2]
  rw [if_neg (by omega)]
  split
  · exact ⟨_, _, _, rfl, fun hz => by omega⟩
  · exact ⟨_, _, _, rfl, fun hz => by omega⟩
theorem fp_quo64 (x y : Int) (hx : x.natAbs < 9007199254740992) (hy : y.natAbs < 9007199254740992) (h0 : y ≠ 0) : FP.Core.div FP.Core.b64 (FP.Core.fromInt FP.Core.b64 x) (FP.Core.fromInt FP.Core.b64 y) < 18446744073709551616 ∧ FP.Core.div FP.Core.b64 (FP.Core.fromInt FP.Core.b64 x) (FP.Core.fromInt FP.Core.b64 y) % 9223372036854775808 ≤ 9218868437227405312 := by
  have ix := fp_int64 x hx
  have iy := fp_int64 y hy
  obtain ⟨s, c, q, d1, d2⟩ := fp_decF64 _ ix.2.1
  obtain ⟨s', c', q', d1', d2'⟩ := fp_decF64 _ iy.2.1
  have hc := d2' (iy.2.2 h0)
  unfold FP.Core.div
  rw [d1, d1']
  simp only [FP.Core.quotient]
  rw [if_neg hc]
  exact fp_rr64 _ _ _ _
theorem fp_c32 : FP.Core.b32.tails = 8388608 ∧ FP.Core.b32.exps = 256 ∧ FP.Core.b32.qmin = -149 ∧ FP.Core.b32.qmax = 104 ∧ 2 ^ FP.Core.b32.p = 16777216 ∧ FP.Core.b32.p = 24 := by decide
theorem fp_fin32 (s : Bool) (c : Nat) (q : Int) (h1 : c < 16777216) (h2 : -149 ≤ q ∧ q ≤ 104) : FP.Core.encode FP.Core.b32 (.fin s c q) < 4294967296 ∧ FP.Core.encode FP.Core.b32 (.fin s c q) % 2147483648 < 2139095040 ∧ (c ≠ 0 → FP.Core.encode FP.Core.b32 (.fin s c q) % 2147483648 ≠ 0) := by
  obtain ⟨e1, e2, e3, e4, e5, e6⟩ := fp_c32
  have hs : s.toNat = 0 ∨ s.toNat = 1 := by cases s <;> simp
  simp only [FP.Core.encode, FP.Core.assemble, e1, e2, e3]
  split
  · refine ⟨by omega, by omega, fun _ => by omega⟩
  · refine ⟨by omega, by omega, fun _ => by omega⟩
theorem fp_inf32 (s : Bool) : FP.Core.encode FP.Core.b32 (.inf s) < 4294967296 ∧ FP.Core.encode FP.Core.b32 (.inf s) % 2147483648 ≤ 2139095040 := by
  cases s <;> decide
theorem fp_set32 (s : Bool) (c : Nat) (q : Int) (hq : -149 ≤ q) : FP.Core.encode FP.Core.b32 (FP.Core.settle FP.Core.b32 s c q) < 4294967296 ∧ FP.Core.encode FP.Core.b32 (FP.Core.settle FP.Core.b32 s c q) % 2147483648 ≤ 2139095040 := by
  obtain ⟨e1, e2, e3, e4, e5, e6⟩ := fp_c32
  unfold FP.Core.settle FP.Core.bound
  rw [e5, e4, e1]
  split
  · split
    · have h := fp_fin32 s c q (by omega) ⟨hq, by omega⟩
      exact ⟨h.1, by omega⟩
    · exact fp_inf32 s
  · split
    · have h := fp_fin32 s 8388608 (q + 1) (by decide) ⟨by omega, by omega⟩
      exact ⟨h.1, by omega⟩
    · exact fp_inf32 s
theorem fp_rr32 (s : Bool) (num den : Nat) (e : Int) : FP.Core.encode FP.Core.b32 (FP.Core.roundRatio FP.Core.b32 s num den e) < 4294967296 ∧ FP.Core.encode FP.Core.b32 (FP.Core.roundRatio FP.Core.b32 s num den e) % 2147483648 ≤ 2139095040 := by
  obtain ⟨e1, e2, e3, e4, e5, e6⟩ := fp_c32
  unfold FP.Core.roundRatio FP.Core.roundAt
  split
  · rw [e3]
    have h := fp_fin32 s 0 (-149) (by decide) (by decide)
    exact ⟨h.1, by omega⟩
  · refine fp_set32 s _ _ ?_
    unfold FP.Core.quantum
    rw [e3]
    exact Int.le_max_left _ _
theorem fp_int32 (i : Int) (hi : i.natAbs < 16777216) : FP.Core.fromInt FP.Core.b32 i < 4294967296 ∧ FP.Core.fromInt FP.Core.b32 i % 2147483648 < 2139095040 ∧ (i ≠ 0 → FP.Core.fromInt FP.Core.b32 i % 2147483648 ≠ 0) := by
  obtain ⟨e1, e2, e3, e4, e5, e6⟩ := fp_c32
  unfold FP.Core.fromInt FP.Core.ofInt FP.Core.round FP.Core.roundRatio FP.Core.roundAt
  dsimp only
  by_cases h0 : i.natAbs = 0
  · rw [if_pos h0, e3]
    have h := fp_fin32 (decide (i < 0)) 0 (-149) (by decide) (by decide)
    exact ⟨h.1, h.2.1, fun hz => by omega⟩
  · rw [if_neg h0]
    have hl : i.natAbs.log2 < 24 := (Nat.log2_lt h0).mpr (by omega)
    have hq : -149 ≤ FP.Core.quantum FP.Core.b32 i.natAbs 1 0 ∧ FP.Core.quantum FP.Core.b32 i.natAbs 1 0 ≤ 0 := by
      unfold FP.Core.quantum FP.Core.leading
      rw [e3, e6]
      have l1 : Nat.log2 1 = 0 := by decide
      dsimp only
      rw [l1]
      split <;> omega
    generalize FP.Core.quantum FP.Core.b32 i.natAbs 1 0 = q at hq
    have hu : FP.Core.nearest (FP.Core.unitsNum i.natAbs 0 q) (FP.Core.unitsDen 1 0 q) = FP.Core.unitsNum i.natAbs 0 q := by
      unfold FP.Core.unitsDen FP.Core.nearest
      have : (q - 0).toNat = 0 := by omega
      rw [this, Nat.pow_zero, Nat.mul_one, Nat.mod_one, Nat.div_one]
      rfl
    have hp : FP.Core.unitsNum i.natAbs 0 q ≠ 0 := by
      unfold FP.Core.unitsNum
      have := Nat.two_pow_pos (0 - q).toNat
      have h1 : 0 < i.natAbs := by omega
      have := Nat.mul_pos h1 this
      omega
    rw [hu]
    generalize FP.Core.unitsNum i.natAbs 0 q = c at hp
    unfold FP.Core.settle FP.Core.bound
    rw [e5, e4, e1]
    split
    · rw [if_pos (by omega)]
      have h := fp_fin32 (decide (i < 0)) c q (by omega) ⟨hq.1, by omega⟩
      exact ⟨h.1, h.2.1, fun _ => h.2.2 hp⟩
    · rw [if_pos (by omega)]
      have h := fp_fin32 (decide (i < 0)) 8388608 (q + 1) (by decide) ⟨by omega, by omega⟩
      exact ⟨h.1, h.2.1, fun _ => h.2.2 (by decide)⟩
theorem fp_dec32 (n : Nat) (h : n % 2147483648 ≤ 2139095040) : FP.Core.decode FP.Core.b32 n ≠ .nan := by
  obtain ⟨e1, e2, e3, e4, e5, e6⟩ := fp_c32
  unfold FP.Core.decode FP.Core.fieldE FP.Core.fieldT
  rw [e1, e2]
  split
  · rw [if_pos (by omega)]
    intro z; cases z
  · split <;> (intro z; cases z)
theorem fp_decF32 (n : Nat) (h : n % 2147483648 < 2139095040) : ∃ s c q, FP.Core.decode FP.Core.b32 n = .fin s c q ∧ (n % 2147483648 ≠ 0 → c ≠ 0) := by
  obtain ⟨e1, e2, e3, e4, e5, e6⟩ := fp_c32
  unfold FP.Core.decode FP.Core.fieldE FP.Core.fieldT
  rw [e1, e2]
  rw [if_neg (by omega)]
  split
  · exact ⟨_, _, _, rfl, fun hz => by omega⟩
  · exact ⟨_, _, _, rfl, fun hz => by omega⟩
theorem fp_quo32 (x y : Int) (hx : x.natAbs < 16777216) (hy : y.natAbs < 16777216) (h0 : y ≠ 0) : FP.Core.div FP.Core.b32 (FP.Core.fromInt FP.Core.b32 x) (FP.Core.fromInt FP.Core.b32 y) < 4294967296 ∧ FP.Core.div FP.Core.b32 (FP.Core.fromInt FP.Core.b32 x) (FP.Core.fromInt FP.Core.b32 y) % 2147483648 ≤ 2139095040 := by
  have ix := fp_int32 x hx
  have iy := fp_int32 y hy
  obtain ⟨s, c, q, d1, d2⟩ := fp_decF32 _ ix.2.1
  obtain ⟨s', c', q', d1', d2'⟩ := fp_decF32 _ iy.2.1
  have hc := d2' (iy.2.2 h0)
  unfold FP.Core.div
  rw [d1, d1']
  simp only [FP.Core.quotient]
  rw [if_neg hc]
  exact fp_rr32 _ _ _ _
def N64 (v : Int) : Prop := 0 ≤ v ∧ v < 18446744073709551616 ∧ v % 9223372036854775808 ≤ 9218868437227405312
def N32 (v : Int) : Prop := 0 ≤ v ∧ v < 4294967296 ∧ v % 2147483648 ≤ 2139095040
def zd (x : Int) : Int := ((FP.i2d (Int32.ofInt x)).toNat : Int)
def zf (x : Int) : Int := ((FP.i2f (Int32.ofInt x)).toNat : Int)
def zdd (x y : Int) : Int := ((FP.ddiv (FP.i2d (Int32.ofInt x)) (FP.i2d (Int32.ofInt y))).toNat : Int)
def zff2 (x y : Int) : Int := ((FP.fdiv (FP.i2f (Int32.ofInt x)) (FP.i2f (Int32.ofInt y))).toNat : Int)
def zfd2 (v : Int) : Int := ((FP.f2d (UInt32.ofNat v.toNat)).toNat : Int)
theorem fp_and64 {u : UInt64} (h : u.toNat % 9223372036854775808 ≤ 9218868437227405312) : u &&& 0x7fffffffffffffff ≤ 0x7ff0000000000000 := by
  rw [UInt64.le_iff_toNat_le, UInt64.toNat_and]
  show u.toNat &&& (2 ^ 63 - 1) ≤ _
  rw [Nat.and_two_pow_sub_one_eq_mod]
  exact h
theorem fp_and32 {u : UInt32} (h : u.toNat % 2147483648 ≤ 2139095040) : u &&& 0x7fffffff ≤ 0x7f800000 := by
  rw [UInt32.le_iff_toNat_le, UInt32.toNat_and]
  show u.toNat &&& (2 ^ 31 - 1) ≤ _
  rw [Nat.and_two_pow_sub_one_eq_mod]
  exact h
theorem fp_64 {n : Nat} (h : n < 18446744073709551616) : (UInt64.ofNat n).toNat = n := UInt64.toNat_ofNat_of_lt' h
theorem fp_32 {n : Nat} (h : n < 4294967296) : (UInt32.ofNat n).toNat = n := UInt32.toNat_ofNat_of_lt' h
theorem fp_o32 {x : Int} (h : -2147483648 ≤ x ∧ x < 2147483648) : (Int32.ofInt x).toInt = x := q_i32 h
theorem zdd_N {x y : Int} (hx : -2147483648 ≤ x ∧ x < 2147483648) (hy : -2147483648 ≤ y ∧ y < 2147483648) (h0 : y ≠ 0) : N64 (zdd x y) ∧ FP.ddiv (FP.i2d (Int32.ofInt x)) (FP.i2d (Int32.ofInt y)) &&& 0x7fffffffffffffff ≤ 0x7ff0000000000000 := by
  have k := fp_quo64 x y (by omega) (by omega) h0
  have ix := fp_int64 x (by omega)
  have iy := fp_int64 y (by omega)
  have e : (FP.ddiv (FP.i2d (Int32.ofInt x)) (FP.i2d (Int32.ofInt y))).toNat = FP.Core.div FP.Core.b64 (FP.Core.fromInt FP.Core.b64 x) (FP.Core.fromInt FP.Core.b64 y) := by
    unfold FP.ddiv FP.Core.ddiv FP.i2d FP.Core.i2d
    rw [fp_o32 hx, fp_o32 hy, fp_64 ix.1, fp_64 iy.1, fp_64 k.1]
  refine ⟨?_, fp_and64 (by rw [e]; exact k.2)⟩
  unfold N64 zdd
  rw [e]
  exact ⟨by omega, by omega, by omega⟩
theorem zff_N {x y : Int} (hx : -16777216 < x ∧ x < 16777216) (hy : -16777216 < y ∧ y < 16777216) (h0 : y ≠ 0) : N32 (zff2 x y) ∧ FP.fdiv (FP.i2f (Int32.ofInt x)) (FP.i2f (Int32.ofInt y)) &&& 0x7fffffff ≤ 0x7f800000 := by
  have k := fp_quo32 x y (by omega) (by omega) h0
  have ix := fp_int32 x (by omega)
  have iy := fp_int32 y (by omega)
  have e : (FP.fdiv (FP.i2f (Int32.ofInt x)) (FP.i2f (Int32.ofInt y))).toNat = FP.Core.div FP.Core.b32 (FP.Core.fromInt FP.Core.b32 x) (FP.Core.fromInt FP.Core.b32 y) := by
    unfold FP.fdiv FP.Core.fdiv FP.i2f FP.Core.i2f
    rw [fp_o32 ⟨by omega, by omega⟩, fp_o32 ⟨by omega, by omega⟩, fp_32 ix.1, fp_32 iy.1, fp_32 k.1]
  refine ⟨?_, fp_and32 (by rw [e]; exact k.2)⟩
  unfold N32 zff2
  rw [e]
  exact ⟨by omega, by omega, by omega⟩
theorem zfd2_N {v : Int} (hv : N32 v) : N64 (zfd2 v) ∧ FP.f2d (UInt32.ofNat v.toNat) &&& 0x7fffffffffffffff ≤ 0x7ff0000000000000 := by
  obtain ⟨h1, h2, h3⟩ := hv
  have e0 : (UInt32.ofNat v.toNat).toNat = v.toNat := fp_32 (by omega)
  have hd := fp_dec32 v.toNat (by omega)
  have key : FP.Core.convert FP.Core.b32 FP.Core.b64 v.toNat < 18446744073709551616 ∧ FP.Core.convert FP.Core.b32 FP.Core.b64 v.toNat % 9223372036854775808 ≤ 9218868437227405312 := by
    unfold FP.Core.convert
    cases hx : FP.Core.decode FP.Core.b32 v.toNat with
    | nan => exact absurd hx hd
    | inf s => exact fp_inf64 s
    | fin s c q => exact fp_rr64 s c 1 q
  have hn : FP.Core.fIsNaN (UInt32.ofNat v.toNat) = false := by
    unfold FP.Core.fIsNaN FP.Core.isNaN
    rw [e0]
    exact decide_eq_false hd
  have e : (FP.f2d (UInt32.ofNat v.toNat)).toNat = FP.Core.convert FP.Core.b32 FP.Core.b64 v.toNat := by
    unfold FP.f2d FP.Core.f2d
    rw [hn, if_neg (by decide), e0, fp_64 key.1]
  refine ⟨?_, fp_and64 (by rw [e]; exact key.2)⟩
  unfold N64 zfd2
  rw [e]
  exact ⟨by omega, by omega, by omega⟩
theorem fp_ofto64 (u : UInt64) : UInt64.ofNat ((u.toNat : Int)).toNat = u := by rw [Int.toNat_natCast, UInt64.ofNat_toNat]
theorem fp_ofto32 (u : UInt32) : UInt32.ofNat ((u.toNat : Int)).toNat = u := by rw [Int.toNat_natCast, UInt32.ofNat_toNat]
theorem x_i2d (k : qI) (ls r : List qV) (x : Int) (a : qA) : q_i2d k ls ((0, x) :: r) a = k ls ((4, zd x) :: r) a := rfl
theorem x_i2f (k : qI) (ls r : List qV) (x : Int) (a : qA) : q_i2f k ls ((0, x) :: r) a = k ls ((3, zf x) :: r) a := rfl
theorem x_ddiv (k : qI) (ls r : List qV) {x y : Int} (a : qA) (hx : -2147483648 ≤ x ∧ x < 2147483648) (hy : -2147483648 ≤ y ∧ y < 2147483648) (h0 : y ≠ 0) : q_ddiv k ls ((4, zd y) :: (4, zd x) :: r) a = k ls ((4, zdd x y) :: r) a := by
  unfold q_ddiv zd
  dsimp only
  rw [fp_ofto64, fp_ofto64, if_pos ⟨rfl, rfl, (zdd_N hx hy h0).2⟩]
  rfl
theorem x_fdiv (k : qI) (ls r : List qV) {x y : Int} (a : qA) (hx : -16777216 < x ∧ x < 16777216) (hy : -16777216 < y ∧ y < 16777216) (h0 : y ≠ 0) : q_fdiv k ls ((3, zf y) :: (3, zf x) :: r) a = k ls ((3, zff2 x y) :: r) a := by
  unfold q_fdiv zf
  dsimp only
  rw [fp_ofto32, fp_ofto32, if_pos ⟨rfl, rfl, (zff_N hx hy h0).2⟩]
  rfl
theorem x_f2d (k : qI) (ls r : List qV) {v : Int} (a : qA) (hv : N32 v) : q_f2d k ls ((3, v) :: r) a = k ls ((4, zfd2 v) :: r) a := by
  unfold q_f2d
  dsimp only
  rw [if_pos ⟨rfl, (zfd2_N hv).2⟩]
  rfl
theorem x_dcmpl (k : qI) (ls r : List qV) {v : Int} (a : qA) (hv : N64 v) : q_dcmpl k ls ((4, v) :: (4, v) :: r) a = k ls ((0, 0) :: r) a := by
  obtain ⟨h1, h2, h3⟩ := hv
  unfold q_dcmpl
  dsimp only
  rw [if_pos ⟨rfl, rfl⟩]
  have e : FP.dcmp (UInt64.ofNat v.toNat) (UInt64.ofNat v.toNat) = some .eq := by
    unfold FP.dcmp FP.Core.dcmp FP.Core.cmp
    rw [fp_64 (by omega)]
    have hd := fp_dec64 v.toNat (by omega)
    cases hx : FP.Core.decode FP.Core.b64 v.toNat with
    | nan => exact absurd hx hd
    | inf s => simp [FP.Core.order, compare, compareOfLessAndEq]
    | fin s c q => simp [FP.Core.order, compare, compareOfLessAndEq]
  rw [e]
  rfl
theorem N64_0 : N64 0 := by unfold N64; decide
theorem N32_0 : N32 0 := by unfold N32; decide
theorem N32_1 : N32 1065353216 := by unfold N32; decide
