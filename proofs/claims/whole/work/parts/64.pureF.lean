/-! ===== 64.pureF: a share is a number, no NaN ===== -/
theorem b32_t : FP.Core.b32.tails = 8388608 := by decide
theorem b32_e : FP.Core.b32.exps = 256 := by decide
theorem b32_m : FP.Core.b32.qmin = -149 := by decide
theorem b32_M : FP.Core.b32.qmax = 104 := by decide
theorem b32_p : 2 ^ FP.Core.b32.p = 16777216 := by decide
theorem b64_t : FP.Core.b64.tails = 4503599627370496 := by decide
theorem b64_e : FP.Core.b64.exps = 2048 := by decide
theorem b64_m : FP.Core.b64.qmin = -1074 := by decide
theorem b64_M : FP.Core.b64.qmax = 971 := by decide
theorem b64_p : 2 ^ FP.Core.b64.p = 9007199254740992 := by decide
def fBnd (f : FP.Core.Fmt) : FP.Core.Datum → Prop
  | .nan => False
  | .inf _ => True
  | .fin _ c q => c < 2 ^ f.p ∧ q ≤ f.qmax
theorem fBnd_rr (f : FP.Core.Fmt) (h1 : f.qmin ≤ f.qmax) (h2 : f.tails < 2 ^ f.p) (s : Bool) (a b : Nat) (e : Int) : fBnd f (FP.Core.roundRatio f s a b e) := by
  unfold FP.Core.roundRatio
  split
  · exact ⟨Nat.two_pow_pos _, h1⟩
  · unfold FP.Core.roundAt FP.Core.settle FP.Core.bound
    split
    · split
      · rename_i h3 h4
        exact ⟨h3, h4⟩
      · trivial
    · split
      · rename_i h3 h4
        exact ⟨h2, h4⟩
      · trivial
theorem fEnc32 {d : FP.Core.Datum} (h : fBnd FP.Core.b32 d) : FP.Core.encode FP.Core.b32 d < 4294967296 ∧ FP.Core.encode FP.Core.b32 d % 2147483648 ≤ 2139095040 := by
  cases d with
  | nan => exact absurd h id
  | inf s =>
    show FP.Core.assemble FP.Core.b32 s (FP.Core.b32.exps - 1) 0 < _ ∧ FP.Core.assemble FP.Core.b32 s (FP.Core.b32.exps - 1) 0 % _ ≤ _
    unfold FP.Core.assemble
    rw [b32_t, b32_e]
    cases s <;> decide
  | fin s c q =>
    obtain ⟨hc, hq⟩ := h
    rw [b32_p] at hc
    rw [b32_M] at hq
    show (if c < FP.Core.b32.tails then FP.Core.assemble FP.Core.b32 s 0 c else FP.Core.assemble FP.Core.b32 s ((q - FP.Core.b32.qmin).toNat + 1) (c - FP.Core.b32.tails)) < _ ∧ (if c < FP.Core.b32.tails then FP.Core.assemble FP.Core.b32 s 0 c else FP.Core.assemble FP.Core.b32 s ((q - FP.Core.b32.qmin).toNat + 1) (c - FP.Core.b32.tails)) % _ ≤ _
    unfold FP.Core.assemble
    rw [b32_t, b32_e, b32_m]
    have hs : s.toNat ≤ 1 := by cases s <;> decide
    by_cases h2 : c < 8388608
    · rw [if_pos h2]
      omega
    · rw [if_neg h2]
      omega
theorem fEnc64 {d : FP.Core.Datum} (h : fBnd FP.Core.b64 d) : FP.Core.encode FP.Core.b64 d < 18446744073709551616 ∧ FP.Core.encode FP.Core.b64 d % 9223372036854775808 ≤ 9218868437227405312 := by
  cases d with
  | nan => exact absurd h id
  | inf s =>
    show FP.Core.assemble FP.Core.b64 s (FP.Core.b64.exps - 1) 0 < _ ∧ FP.Core.assemble FP.Core.b64 s (FP.Core.b64.exps - 1) 0 % _ ≤ _
    unfold FP.Core.assemble
    rw [b64_t, b64_e]
    cases s <;> decide
  | fin s c q =>
    obtain ⟨hc, hq⟩ := h
    rw [b64_p] at hc
    rw [b64_M] at hq
    show (if c < FP.Core.b64.tails then FP.Core.assemble FP.Core.b64 s 0 c else FP.Core.assemble FP.Core.b64 s ((q - FP.Core.b64.qmin).toNat + 1) (c - FP.Core.b64.tails)) < _ ∧ (if c < FP.Core.b64.tails then FP.Core.assemble FP.Core.b64 s 0 c else FP.Core.assemble FP.Core.b64 s ((q - FP.Core.b64.qmin).toNat + 1) (c - FP.Core.b64.tails)) % _ ≤ _
    unfold FP.Core.assemble
    rw [b64_t, b64_e, b64_m]
    have hs : s.toNat ≤ 1 := by cases s <;> decide
    by_cases h2 : c < 4503599627370496
    · rw [if_pos h2]
      omega
    · rw [if_neg h2]
      omega
/-- a whole number other than 0 -/
theorem fEnc_nz {c : Nat} {q : Int} (h0 : c ≠ 0) (hc : c < 16777216) (hq : q ≤ 103) : FP.Core.encode FP.Core.b32 (.fin false c q) < 2139095040 ∧ FP.Core.encode FP.Core.b32 (.fin false c q) ≠ 0 := by
  show (if c < FP.Core.b32.tails then FP.Core.assemble FP.Core.b32 false 0 c else FP.Core.assemble FP.Core.b32 false ((q - FP.Core.b32.qmin).toNat + 1) (c - FP.Core.b32.tails)) < _ ∧ (if c < FP.Core.b32.tails then FP.Core.assemble FP.Core.b32 false 0 c else FP.Core.assemble FP.Core.b32 false ((q - FP.Core.b32.qmin).toNat + 1) (c - FP.Core.b32.tails)) ≠ 0
  unfold FP.Core.assemble
  rw [b32_t, b32_e, b32_m, show false.toNat = 0 from rfl]
  by_cases h2 : c < 8388608
  · rw [if_pos h2]
    omega
  · rw [if_neg h2]
    omega
theorem fDec_nn {n : Nat} (h : n % 2147483648 ≤ 2139095040) : FP.Core.decode FP.Core.b32 n ≠ .nan := by
  unfold FP.Core.decode FP.Core.fieldE FP.Core.fieldT
  rw [b32_t, b32_e]
  split
  · split
    · exact fun h => by cases h
    · omega
  · split <;> exact fun h => by cases h
theorem fDec_nn64 {n : Nat} (h : n % 9223372036854775808 ≤ 9218868437227405312) : FP.Core.decode FP.Core.b64 n ≠ .nan := by
  unfold FP.Core.decode FP.Core.fieldE FP.Core.fieldT
  rw [b64_t, b64_e]
  split
  · split
    · exact fun h => by cases h
    · omega
  · split <;> exact fun h => by cases h
theorem fDec_fin {n : Nat} (h : n < 2139095040) (h0 : n ≠ 0) : ∃ s c q, FP.Core.decode FP.Core.b32 n = .fin s c q ∧ c ≠ 0 := by
  unfold FP.Core.decode FP.Core.fieldE FP.Core.fieldT
  rw [b32_t, b32_e, if_neg (by omega)]
  split
  · exact ⟨_, _, _, rfl, by omega⟩
  · exact ⟨_, _, _, rfl, by omega⟩
theorem fNear {a b : Nat} (h : b ≤ a) (hb : 0 < b) : FP.Core.nearest a b ≠ 0 := by
  have : 0 < a / b := Nat.div_pos h hb
  unfold FP.Core.nearest
  split
  · omega
  · split <;> omega
theorem fRound_nz {m : Nat} (h0 : 0 < m) (hm : m < 2 ^ 31) : FP.Core.fromInt FP.Core.b32 (m : Int) < 2139095040 ∧ FP.Core.fromInt FP.Core.b32 (m : Int) ≠ 0 := by
  unfold FP.Core.fromInt FP.Core.ofInt
  rw [decide_eq_false (by omega), Int.natAbs_natCast]
  show FP.Core.encode FP.Core.b32 (FP.Core.roundRatio FP.Core.b32 false m 1 0) < _ ∧ FP.Core.encode FP.Core.b32 (FP.Core.roundRatio FP.Core.b32 false m 1 0) ≠ 0
  unfold FP.Core.roundRatio
  rw [if_neg (by omega)]
  have hl : m.log2 ≤ 30 := by
    have := (Nat.log2_lt (by omega)).mpr hm
    omega
  have hs : 2 ^ m.log2 ≤ m := Nat.log2_self_le (by omega)
  have eld : FP.Core.leading m 1 = (m.log2 : Int) := by
    unfold FP.Core.leading
    have e1 : Nat.log2 1 = 0 := by decide
    rw [e1]
    simp only [Nat.one_mul, Int.natCast_zero, Int.sub_zero, Int.toNat_natCast]
    rw [if_pos]
    have : (-(m.log2 : Int)).toNat = 0 := by omega
    rw [this]
    omega
  have hq : FP.Core.quantum FP.Core.b32 m 1 0 = (m.log2 : Int) - 23 := by
    unfold FP.Core.quantum
    rw [eld, b32_m]
    show max (-149 : Int) ((m.log2 : Int) + 0 - ((24 : Nat) - 1)) = _
    omega
  rw [hq]
  unfold FP.Core.roundAt
  have hn : FP.Core.nearest (FP.Core.unitsNum m 0 ((m.log2 : Int) - 23)) (FP.Core.unitsDen 1 0 ((m.log2 : Int) - 23)) ≠ 0 := by
    unfold FP.Core.unitsNum FP.Core.unitsDen
    refine fNear ?_ (by rw [Nat.one_mul]; exact Nat.two_pow_pos _)
    rw [Nat.one_mul]
    have h1 : 2 ^ ((m.log2 : Int) - 23 - 0).toNat ≤ 2 ^ m.log2 := Nat.pow_le_pow_right (by decide) (by omega)
    have h2 : m * 1 ≤ m * 2 ^ (0 - ((m.log2 : Int) - 23)).toNat := Nat.mul_le_mul_left m (Nat.two_pow_pos _)
    omega
  generalize FP.Core.nearest (FP.Core.unitsNum m 0 ((m.log2 : Int) - 23)) (FP.Core.unitsDen 1 0 ((m.log2 : Int) - 23)) = c at hn ⊢
  unfold FP.Core.settle FP.Core.bound
  rw [b32_p, b32_M, b32_t]
  split
  · rename_i h3
    rw [if_pos (by omega)]
    exact fEnc_nz hn h3 (by omega)
  · rw [if_pos (by omega)]
    exact fEnc_nz (by decide) (by decide) (by omega)
theorem fI2f_nn (x : Int32) : (FP.i2f x).toNat % 2147483648 ≤ 2139095040 := by
  have h := fEnc32 (fBnd_rr FP.Core.b32 (by decide) (by decide) (decide (x.toInt < 0)) x.toInt.natAbs 1 0)
  have e : (FP.i2f x).toNat = FP.Core.encode FP.Core.b32 (FP.Core.roundRatio FP.Core.b32 (decide (x.toInt < 0)) x.toInt.natAbs 1 0) := by
    show (UInt32.ofNat _).toNat = _
    rw [UInt32.toNat_ofNat_of_lt' (by exact h.1)]
    rfl
  rw [e]
  exact h.2
theorem fI2f_nz {m : Nat} (h0 : 0 < m) (hm : m < 2 ^ 31) : (FP.i2f (nI m)).toNat < 2139095040 ∧ (FP.i2f (nI m)).toNat ≠ 0 := by
  have h := fRound_nz h0 hm
  have e : (FP.i2f (nI m)).toNat = FP.Core.fromInt FP.Core.b32 (m : Int) := by
    show (UInt32.ofNat (FP.Core.fromInt FP.Core.b32 (nI m).toInt)).toNat = _
    rw [nI_toInt hm, UInt32.toNat_ofNat_of_lt' (by exact Nat.lt_trans h.1 (by decide))]
  rw [e]
  exact h
theorem fDiv_nn {g m : Nat} (h0 : 0 < m) (hm : m < 2 ^ 31) : (FP.fdiv (FP.i2f (nI g)) (FP.i2f (nI m))).toNat % 2147483648 ≤ 2139095040 := by
  have ha := fDec_nn (fI2f_nn (nI g))
  obtain ⟨s, c, q, hb, hc⟩ := fDec_fin (fI2f_nz h0 hm).1 (fI2f_nz h0 hm).2
  have hq : fBnd FP.Core.b32 (FP.Core.quotient FP.Core.b32 (FP.Core.decode FP.Core.b32 (FP.i2f (nI g)).toNat) (FP.Core.decode FP.Core.b32 (FP.i2f (nI m)).toNat)) := by
    rw [hb]
    generalize FP.Core.decode FP.Core.b32 (FP.i2f (nI g)).toNat = d at ha ⊢
    cases d with
    | nan => exact absurd rfl ha
    | inf s => trivial
    | fin s2 c2 q2 =>
      show fBnd FP.Core.b32 (if c = 0 then _ else _)
      rw [if_neg hc]
      exact fBnd_rr FP.Core.b32 (by decide) (by decide) _ _ _ _
  have h := fEnc32 hq
  have e : (FP.fdiv (FP.i2f (nI g)) (FP.i2f (nI m))).toNat = FP.Core.encode FP.Core.b32 (FP.Core.quotient FP.Core.b32 (FP.Core.decode FP.Core.b32 (FP.i2f (nI g)).toNat) (FP.Core.decode FP.Core.b32 (FP.i2f (nI m)).toNat)) := by
    show (UInt32.ofNat _).toNat = _
    rw [UInt32.toNat_ofNat_of_lt' (by exact h.1)]
    rfl
  rw [e]
  exact h.2
theorem vfn32 {x : UInt32} (h : x.toNat % 2147483648 ≤ 2139095040) : vf_n32 x := by
  unfold vf_n32
  rw [UInt32.le_iff_toNat_le, UInt32.toNat_and]
  show x.toNat &&& (2 ^ 31 - 1) ≤ 2139095040
  rw [Nat.and_two_pow_sub_one_eq_mod]
  exact h
theorem vfn64 {x : UInt64} (h : x.toNat % 9223372036854775808 ≤ 9218868437227405312) : vf_n64 x := by
  unfold vf_n64
  rw [UInt64.le_iff_toNat_le, UInt64.toNat_and]
  show x.toNat &&& (2 ^ 63 - 1) ≤ 9218868437227405312
  rw [Nat.and_two_pow_sub_one_eq_mod]
  exact h
theorem fF2d_nn {x : UInt32} (h : x.toNat % 2147483648 ≤ 2139095040) : (FP.f2d x).toNat % 9223372036854775808 ≤ 9218868437227405312 := by
  have hd := fDec_nn h
  unfold FP.f2d
  have e0 : FP.Core.fIsNaN x = false := by
    unfold FP.Core.fIsNaN FP.Core.isNaN
    exact decide_eq_false hd
  rw [e0]
  have hq : fBnd FP.Core.b64 (FP.Core.round FP.Core.b64 (FP.Core.decode FP.Core.b32 x.toNat)) := by
    generalize FP.Core.decode FP.Core.b32 x.toNat = d at hd ⊢
    cases d with
    | nan => exact absurd rfl hd
    | inf s => trivial
    | fin s2 c2 q2 => exact fBnd_rr FP.Core.b64 (by decide) (by decide) _ _ _ _
  have h2 := fEnc64 hq
  have e : (FP.Core.f2d x).toNat = FP.Core.encode FP.Core.b64 (FP.Core.round FP.Core.b64 (FP.Core.decode FP.Core.b32 x.toNat)) := by
    show (UInt64.ofNat _).toNat = _
    rw [UInt64.toNat_ofNat_of_lt' (by exact h2.1)]
    rfl
  show (FP.Core.f2d x).toNat % _ ≤ _
  rw [e]
  exact h2.2
theorem fCmp_eq {x : UInt64} (h : x.toNat % 9223372036854775808 ≤ 9218868437227405312) : FP.dcmp x x = some .eq := by
  have hd := fDec_nn64 h
  show FP.Core.order (FP.Core.decode FP.Core.b64 x.toNat) (FP.Core.decode FP.Core.b64 x.toNat) = _
  generalize FP.Core.decode FP.Core.b64 x.toNat = d at hd ⊢
  cases d with
  | nan => exact absurd rfl hd
  | inf s =>
    show some (compare _ _) = _
    rw [Std.compare_self]
  | fin s c q =>
    show some (compare _ _) = _
    rw [Std.compare_self]
/-- the share of two numbers -/
def eShare (g a : Int32) : UInt32 := if a = 0 then FP.fconst0 else FP.fdiv (FP.i2f g) (FP.i2f a)
theorem eShare_nn {g m : Nat} (hm : m < 2 ^ 31) : (eShare (nI g) (nI m)).toNat % 2147483648 ≤ 2139095040 := by
  unfold eShare
  split
  · decide
  · rename_i h
    refine fDiv_nn ?_ hm
    rcases Nat.eq_zero_or_pos m with h0 | h0
    · exact absurd (by rw [h0]; rfl) h
    · exact h0
