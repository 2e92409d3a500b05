/-! ===== 59.pure10: sets by their bits; what is needed; the ranks ===== -/
def bt (x : Int32) (i : Nat) : Bool := x.toBitVec.getLsbD i
theorem b_ext {x y : Int32} (h : ∀ i, i < 32 → bt x i = bt y i) : x = y := Int32.toBitVec_inj.mp (BitVec.eq_of_getLsbD_eq (fun i hi => h i hi))
theorem b_or (x y : Int32) (i : Nat) : bt (x ||| y) i = (bt x i || bt y i) := by unfold bt; rw [Int32.toBitVec_or, BitVec.getLsbD_or]
theorem b_and (x y : Int32) (i : Nat) : bt (x &&& y) i = (bt x i && bt y i) := by unfold bt; rw [Int32.toBitVec_and, BitVec.getLsbD_and]
theorem b_big {x : Int32} {i : Nat} (h : 32 ≤ i) : bt x i = false := BitVec.getLsbD_of_ge _ _ h
theorem b_0 (i : Nat) : bt 0 i = false := BitVec.getLsbD_zero
theorem s_l : ∀ n, n < 32 → ((nI n &&& 31).toBitVec.smod 32).toNat = n := by decide +kernel
theorem b_shl (n : Nat) (hn : n < 32) (x : Int32) {i : Nat} (hi : i < 32) : bt (x <<< (nI n &&& 31)) i = (decide (n ≤ i) && bt x (i - n)) := by
  unfold bt
  rw [Int32.toBitVec_shiftLeft]
  show (x.toBitVec <<< ((nI n &&& 31).toBitVec.smod 32).toNat).getLsbD i = _
  rw [s_l n hn, BitVec.getLsbD_shiftLeft]
  rcases Nat.lt_or_ge i n with h | h
  · simp [h, Nat.not_le.mpr h]
  · simp [hi, h, Nat.not_lt.mpr h]
theorem b_sshr (n : Nat) (hn : n < 32) (x : Int32) {i : Nat} (hi : i < 32) : bt (x >>> (nI n &&& 31)) i = if n + i < 32 then bt x (n + i) else bt x 31 := by
  unfold bt
  rw [Int32.toBitVec_shiftRight]
  show (x.toBitVec.sshiftRight ((nI n &&& 31).toBitVec.smod 32).toNat).getLsbD i = _
  rw [s_l n hn, BitVec.getLsbD_sshiftRight, BitVec.msb_eq_getLsbD_last]
  simp [hi]
theorem b_1 (i : Nat) : bt 1 i = decide (i = 0) := by
  rcases Nat.lt_or_ge i 32 with h | h
  · exact (by decide +kernel : ∀ i, i < 32 → bt 1 i = decide (i = 0)) i h
  · rw [b_big h, decide_eq_false (by omega)]
theorem b_one {p j : Nat} (hp : p < 32) (hj : j < 32) : bt ((1 : Int32) <<< (nI p &&& 31)) j = decide (p = j) := by
  rw [b_shl p hp 1 hj, b_1]
  by_cases h : p = j
  · subst h
    simp
  · have : ¬ (p ≤ j ∧ j - p = 0) := by omega
    simp only [h, decide_false, Bool.and_eq_false_iff, decide_eq_false_iff_not]
    omega
theorem cHasBit_b {s : Int32} {k : Nat} (hk : k < 32) : cHasBit s (nI k) = if bt s k = true then 1 else 0 := by
  unfold cHasBit
  have e : bt (s >>> (nI k &&& 31)) 0 = bt s k := by
    rw [b_sshr k hk s (by decide), if_pos (by omega), Nat.add_zero]
  by_cases h : bt s k = true
  · rw [if_pos h, if_neg]
    intro h0
    have := congrArg (fun x => bt x 0) h0
    simp only [b_and, e, h, b_0, b_1] at this
    cases this
  · rw [if_neg h, if_pos]
    refine b_ext (fun i hi => ?_)
    rw [b_and, b_0, b_1]
    by_cases hi0 : i = 0
    · subst hi0
      rw [e]
      simp only [Bool.not_eq_true] at h
      rw [h]
      rfl
    · simp [hi0]
/-! what is needed for a thing -/
def eNd (w : Nat → Int32) (t j : Nat) : Prop := ∃ k, k < eWc w t ∧ (eWi w t k = j ∨ ∃ i, i < eWs w (eWi w t k) ∧ eWb w (eWi w t k) i = j)
section ENEED
variable {B : Nat → Nat → Int32} {w : Nat → Int32} {t : Nat}
theorem eNd_lt (hv : eVal w) (ht : t < 20) {j : Nat} (h : eNd w t j) : j < 20 := by
  obtain ⟨k, hk, h⟩ := h
  have hi20 := ((hv t ht).2.2.2.2.1 k hk).2.1
  rcases h with rfl | ⟨i, hi, rfl⟩
  · exact hi20
  · exact ((hv _ hi20).2.2.2.2.2.1 i hi).2
theorem eNeedsS (cx : eCx B w) (ht : t < 20) (s : Int32) {j : Nat} (hj : j < 20) : ∀ n, n ≤ eWs w t → (bt (it (fun i s => s ||| ((1 : Int32) <<< (bSub B (nI t) (nI i) &&& 31))) n s) j = true ↔ (bt s j = true ∨ ∃ i, i < n ∧ eWb w t i = j)) := by
  intro n
  induction n with
  | zero =>
    intro _
    exact ⟨Or.inl, fun h => h.elim id (fun ⟨i, hi, _⟩ => absurd hi (Nat.not_lt_zero i))⟩
  | succ n ih =>
    intro hn
    have hb := ((cx.1 t ht).2.2.2.2.2.1 n (by omega)).2
    rw [it_s, b_or, cx.sub ht (by omega), b_one (by omega) (by omega), Bool.or_eq_true, ih (by omega), decide_eq_true_eq]
    constructor
    · rintro ((h | ⟨i, hi, h⟩) | h)
      · exact Or.inl h
      · exact Or.inr ⟨i, by omega, h⟩
      · exact Or.inr ⟨n, by omega, h⟩
    · rintro (h | ⟨i, hi, h⟩)
      · exact Or.inl (Or.inl h)
      · by_cases e : i = n
        · subst e
          exact Or.inr h
        · exact Or.inl (Or.inr ⟨i, by omega, h⟩)
theorem eNeeds (cx : eCx B w) (ht : t < 20) {j : Nat} (hj : j < 20) : bt (bNeeds B (nI t)) j = true ↔ eNd w t j := by
  have hc5 := (cx.1 t ht).2.1.2
  unfold bNeeds
  rw [cx.ings ht, nI_clamp (by omega)]
  have : ∀ n, n ≤ eWc w t → (bt (it (fun k s => bNeedsS B (bIng B (nI t) (nI k)) (s ||| ((1 : Int32) <<< (bIng B (nI t) (nI k) &&& 31)))) n 0) j = true ↔ ∃ k, k < n ∧ (eWi w t k = j ∨ ∃ i, i < eWs w (eWi w t k) ∧ eWb w (eWi w t k) i = j)) := by
    intro n
    induction n with
    | zero =>
      intro _
      rw [it_zero, b_0]
      exact ⟨fun h => (by cases h), fun ⟨k, hk, _⟩ => absurd hk (Nat.not_lt_zero k)⟩
    | succ n ih =>
      intro hn
      have hi20 := ((cx.1 t ht).2.2.2.2.1 n (by omega)).2.1
      have hs3 := (cx.1 _ hi20).2.2.2.1.2
      rw [it_s, cx.ing ht (by omega)]
      generalize it (fun k s => bNeedsS B (bIng B (nI t) (nI k)) (s ||| ((1 : Int32) <<< (bIng B (nI t) (nI k) &&& 31)))) n 0 = S at ih ⊢
      unfold bNeedsS
      rw [cx.subs hi20, nI_clamp (by omega), eNeedsS cx hi20 _ hj _ (Nat.le_refl _), b_or, b_one (by omega) (by omega), Bool.or_eq_true, ih (by omega), decide_eq_true_eq]
      constructor
      · rintro ((⟨k, hk, h⟩ | h) | h)
        · exact ⟨k, by omega, h⟩
        · exact ⟨n, by omega, Or.inl h⟩
        · exact ⟨n, by omega, Or.inr h⟩
      · rintro ⟨k, hk, h⟩
        by_cases e : k = n
        · subst e
          rcases h with h | h
          · exact Or.inl (Or.inr h)
          · exact Or.inr h
        · exact Or.inl (Or.inl ⟨k, by omega, h⟩)
  exact this _ (Nat.le_refl _)
end ENEED
/-! the greatest of what is needed -/
def nMx (w : Nat → Int32) (R : Nat → Nat) (t : Nat) : Nat := it (fun k m => it (fun i m => max (R (eWb w (eWi w t k) i)) m) (eWs w (eWi w t k)) (max (R (eWi w t k)) m)) (eWc w t) 0
def eIsMx (w : Nat → Int32) (R : Nat → Nat) (t m : Nat) : Prop := (∀ j, eNd w t j → R j ≤ m) ∧ (m = 0 ∨ ∃ j, eNd w t j ∧ R j = m)
theorem eIsMx_u {w : Nat → Int32} {R : Nat → Nat} {t m m' : Nat} (h : eIsMx w R t m) (h' : eIsMx w R t m') : m = m' := by
  have a : m ≤ m' := by
    rcases h.2 with rfl | ⟨j, hj, rfl⟩
    · exact Nat.zero_le _
    · exact h'.1 j hj
  have b : m' ≤ m := by
    rcases h'.2 with rfl | ⟨j, hj, rfl⟩
    · exact Nat.zero_le _
    · exact h.1 j hj
  omega
theorem nMx_s {R : Nat → Nat} {g : Nat → Nat} (m0 : Nat) : ∀ n, (∀ i, i < n → R (g i) ≤ it (fun i m => max (R (g i)) m) n m0) ∧ m0 ≤ it (fun i m => max (R (g i)) m) n m0 ∧ (it (fun i m => max (R (g i)) m) n m0 = m0 ∨ ∃ i, i < n ∧ R (g i) = it (fun i m => max (R (g i)) m) n m0) := by
  intro n
  induction n with
  | zero => exact ⟨fun i hi => absurd hi (Nat.not_lt_zero i), Nat.le_refl _, Or.inl rfl⟩
  | succ n ih =>
    rw [it_s]
    generalize it (fun i m => max (R (g i)) m) n m0 = x at ih ⊢
    obtain ⟨h1, h2, h3⟩ := ih
    refine ⟨fun i hi => ?_, by omega, ?_⟩
    · by_cases e : i = n
      · subst e
        omega
      · have := h1 i (by omega)
        omega
    · rcases Nat.le_total (R (g n)) x with h | h
      · rw [Nat.max_eq_right h]
        rcases h3 with h3 | ⟨i, hi, h3⟩
        · exact Or.inl h3
        · exact Or.inr ⟨i, by omega, h3⟩
      · rw [Nat.max_eq_left h]
        exact Or.inr ⟨n, by omega, rfl⟩
theorem nMx_is (w : Nat → Int32) (R : Nat → Nat) (t : Nat) : eIsMx w R t (nMx w R t) := by
  unfold nMx
  have : ∀ n, (∀ k, k < n → R (eWi w t k) ≤ it (fun k m => it (fun i m => max (R (eWb w (eWi w t k) i)) m) (eWs w (eWi w t k)) (max (R (eWi w t k)) m)) n 0 ∧ ∀ i, i < eWs w (eWi w t k) → R (eWb w (eWi w t k) i) ≤ it (fun k m => it (fun i m => max (R (eWb w (eWi w t k) i)) m) (eWs w (eWi w t k)) (max (R (eWi w t k)) m)) n 0) ∧
      (it (fun k m => it (fun i m => max (R (eWb w (eWi w t k) i)) m) (eWs w (eWi w t k)) (max (R (eWi w t k)) m)) n 0 = 0 ∨ ∃ k, k < n ∧ (R (eWi w t k) = it (fun k m => it (fun i m => max (R (eWb w (eWi w t k) i)) m) (eWs w (eWi w t k)) (max (R (eWi w t k)) m)) n 0 ∨ ∃ i, i < eWs w (eWi w t k) ∧ R (eWb w (eWi w t k) i) = it (fun k m => it (fun i m => max (R (eWb w (eWi w t k) i)) m) (eWs w (eWi w t k)) (max (R (eWi w t k)) m)) n 0)) := by
    intro n
    induction n with
    | zero => exact ⟨fun k hk => absurd hk (Nat.not_lt_zero k), Or.inl rfl⟩
    | succ n ih =>
      rw [it_s]
      generalize it (fun k m => it (fun i m => max (R (eWb w (eWi w t k) i)) m) (eWs w (eWi w t k)) (max (R (eWi w t k)) m)) n 0 = x at ih ⊢
      obtain ⟨h1, h2⟩ := ih
      have hs := nMx_s (R := R) (g := fun i => eWb w (eWi w t n) i) (max (R (eWi w t n)) x) (eWs w (eWi w t n))
      generalize it (fun i m => max (R (eWb w (eWi w t n) i)) m) (eWs w (eWi w t n)) (max (R (eWi w t n)) x) = y at hs ⊢
      obtain ⟨g1, g2, g3⟩ := hs
      refine ⟨fun k hk => ?_, ?_⟩
      · by_cases e : k = n
        · subst e
          exact ⟨by omega, g1⟩
        · obtain ⟨a, b⟩ := h1 k (by omega)
          exact ⟨by omega, fun i hi => by have := b i hi; omega⟩
      · rcases g3 with g3 | ⟨i, hi, g3⟩
        · rcases Nat.le_total (R (eWi w t n)) x with h | h
          · rw [Nat.max_eq_right h] at g3
            rw [g3]
            rcases h2 with h2 | ⟨k, hk, h2⟩
            · exact Or.inl h2
            · exact Or.inr ⟨k, by omega, h2⟩
          · rw [Nat.max_eq_left h] at g3
            exact Or.inr ⟨n, by omega, Or.inl g3.symm⟩
        · exact Or.inr ⟨n, by omega, Or.inr ⟨i, hi, g3⟩⟩
  obtain ⟨h1, h2⟩ := this (eWc w t)
  refine ⟨fun j hj => ?_, ?_⟩
  · obtain ⟨k, hk, h⟩ := hj
    rcases h with rfl | ⟨i, hi, rfl⟩
    · exact (h1 k hk).1
    · exact (h1 k hk).2 i hi
  · rcases h2 with h2 | ⟨k, hk, h | ⟨i, hi, h⟩⟩
    · exact Or.inl h2
    · exact Or.inr ⟨_, ⟨k, hk, Or.inl rfl⟩, h⟩
    · exact Or.inr ⟨_, ⟨k, hk, Or.inr ⟨i, hi, rfl⟩⟩, h⟩
theorem mMax_n {a b : Nat} (ha : a < 2 ^ 31) (hb : b < 2 ^ 31) : mMax (nI a) (nI b) = nI (max a b) := by
  unfold mMax
  by_cases c : nI a ≤ nI b
  · rw [if_pos c, Nat.max_eq_right ((nI_leI ha hb).mp c)]
  · rw [if_neg c, Nat.max_eq_left]
    rcases Nat.lt_or_ge a b with h | h
    · exact absurd (nI_le (by omega) hb) c
    · exact h
theorem cMax_n {a b : Nat} (ha : a < 2 ^ 31) (hb : b < 2 ^ 31) : cMax (nI a) (nI b) = nI (max a b) := by
  unfold cMax
  by_cases c : nI a < nI b
  · rw [if_pos c, Nat.max_eq_right (by have := (nI_ltI ha hb).mp c; omega)]
  · rw [if_neg c, Nat.max_eq_left]
    rcases Nat.lt_or_ge a b with h | h
    · exact absurd (nI_lt h hb) c
    · exact h
/-- a row of ranks by its numbers -/
def eRn (v : Nat → Int32) (R : Nat → Nat) (b : Nat) : Prop := ∀ t, t < 20 → v t = nI (R t) ∧ R t ≤ b
theorem mRkI_n {w v : Nat → Int32} {R : Nat → Nat} {b p m : Nat} (hv : eVal w) (hR : eRn v R b) (hb : b ≤ 1000000) (hp : p < 20) (hm : m ≤ b) : ∀ n, n ≤ eWs w p → mRkI w v p (nI m) n = nI (it (fun i m => max (R (eWb w p i)) m) n m) ∧ it (fun i m => max (R (eWb w p i)) m) n m ≤ b := by
  intro n
  unfold mRkI
  induction n with
  | zero => exact fun _ => ⟨rfl, hm⟩
  | succ n ih =>
    intro hn
    obtain ⟨i1, i2⟩ := ih (by omega)
    obtain ⟨e, h20⟩ := (hv p hp).2.2.2.2.2.1 n (by omega)
    obtain ⟨r1, r2⟩ := hR _ h20
    rw [it_s, it_s, i1]
    rw [e, nI_clamp (by omega), r1, mMax_n (by omega) (by omega)]
    exact ⟨rfl, by omega⟩
theorem mRk_n {w v : Nat → Int32} {R : Nat → Nat} {b t : Nat} (hv : eVal w) (hR : eRn v R b) (hb : b ≤ 1000000) (ht : t < 20) : mRk w v t = nI (nMx w R t) ∧ nMx w R t ≤ b := by
  obtain ⟨h8, hc5⟩ := (hv t ht).2.1
  unfold mRk nMx
  rw [h8, nI_clamp (by omega)]
  have : ∀ n, n ≤ eWc w t → it (mRkS w v t) n 0 = nI (it (fun k m => it (fun i m => max (R (eWb w (eWi w t k) i)) m) (eWs w (eWi w t k)) (max (R (eWi w t k)) m)) n 0) ∧ it (fun k m => it (fun i m => max (R (eWb w (eWi w t k) i)) m) (eWs w (eWi w t k)) (max (R (eWi w t k)) m)) n 0 ≤ b := by
    intro n
    induction n with
    | zero => exact fun _ => ⟨rfl, Nat.zero_le _⟩
    | succ n ih =>
      intro hn
      obtain ⟨i1, i2⟩ := ih (by omega)
      obtain ⟨e, h20, -⟩ := (hv t ht).2.2.2.2.1 n (by omega)
      obtain ⟨r1, r2⟩ := hR _ h20
      obtain ⟨e19, s3⟩ := (hv _ h20).2.2.2.1
      rw [it_s, it_s, i1]
      unfold mRkS
      rw [e, nI_clamp (by omega), r1, mMax_n (by omega) (by omega), e19, nI_clamp (by omega)]
      exact mRkI_n hv hR hb h20 (by omega) _ (Nat.le_refl _)
  exact this _ (Nat.le_refl _)
def nRk (w : Nat → Int32) (R : Nat → Nat) (t : Nat) : Nat := if eWy w t = 0 then 0 else nMx w R t + 1
theorem mRank_n {w v : Nat → Int32} {R : Nat → Nat} {b t : Nat} (hv : eVal w) (hR : eRn v R b) (hb : b ≤ 1000000) (ht : t < 20) : mRank w v t = nI (nRk w R t) ∧ nRk w R t ≤ b + 1 := by
  obtain ⟨h1, h2⟩ := mRk_n hv hR hb ht
  unfold mRank nRk
  rw [hv.made ht, h1]
  by_cases e : eWy w t = 0
  · rw [if_pos e, if_pos rfl, if_pos e]
    exact ⟨rfl, by omega⟩
  · rw [if_neg e, if_neg (by decide), if_neg e, nI_1]
    exact ⟨rfl, by omega⟩
theorem eGri {B : Nat → Nat → Int32} {w : Nat → Int32} {R : Nat → Nat} {b t : Nat} (cx : eCx B w) (hR : eRn (B 8) R b) (hb : b ≤ 1000000) (ht : t < 20) : bGri B (bNeeds B (nI t)) = nI (nMx w R t) := by
  unfold bGri
  have : ∀ n, n ≤ 20 → ∃ m, it (fun i g => if cHasBit (bNeeds B (nI t)) (nI i) = 0 then g else cMax g (bRank B (nI i))) n 0 = nI m ∧ m ≤ b ∧ (∀ j, j < n → eNd w t j → R j ≤ m) ∧ (m = 0 ∨ ∃ j, eNd w t j ∧ R j = m) := by
    intro n
    induction n with
    | zero => exact fun _ => ⟨0, rfl, Nat.zero_le _, fun j hj => absurd hj (Nat.not_lt_zero j), Or.inl rfl⟩
    | succ n ih =>
      intro hn
      obtain ⟨m, e, hm, h1, h2⟩ := ih (by omega)
      rw [it_s, e, cHasBit_b (by omega)]
      have hb2 := eNeeds cx ht (show n < 20 by omega)
      obtain ⟨r1, r2⟩ := hR n (by omega)
      by_cases c : bt (bNeeds B (nI t)) n = true
      · rw [if_pos c, if_neg (by decide)]
        have er : bRank B (nI n) = nI (R n) := (eAt (by omega) (by decide)).trans r1
        rw [er, cMax_n (by omega) (by omega)]
        refine ⟨_, rfl, by omega, fun j hj hnd => ?_, ?_⟩
        · by_cases e2 : j = n
          · subst e2
            omega
          · have := h1 j (by omega) hnd
            omega
        · rcases Nat.le_total m (R n) with h | h
          · rw [Nat.max_eq_right h]
            exact Or.inr ⟨n, hb2.mp c, rfl⟩
          · rw [Nat.max_eq_left h]
            exact h2
      · rw [if_neg c, if_pos rfl]
        refine ⟨m, rfl, hm, fun j hj hnd => ?_, h2⟩
        by_cases e2 : j = n
        · subst e2
          exact absurd (hb2.mpr hnd) c
        · exact h1 j (by omega) hnd
  obtain ⟨m, e, -, h1, h2⟩ := this 20 (Nat.le_refl _)
  rw [e, eIsMx_u (m := m) (m' := nMx w R t) ⟨fun j hj => h1 j (eNd_lt cx.1 ht hj) hj, h2⟩ (nMx_is w R t)]
theorem eCx.up8 {B : Nat → Nat → Int32} {w v : Nat → Int32} (cx : eCx B w) : eCx (va_up B 8 v) w := by
  refine ⟨cx.1, fun t ht => ?_⟩
  simp (disch := omega) only [zup_ne, zup_eq, upd_ne, upd_eq]
  exact cx.2 t ht
theorem frRank_n {B : Nat → Nat → Int32} {w v : Nat → Int32} {R : Nat → Nat} {b t : Nat} (cx : eCx B w) (hR : eRn v R b) (hb : b ≤ 1000000) (ht : t < 20) : frRank (va_up B 8 v) t = nI (nRk w R t) := by
  have hR' : eRn (va_up B 8 v 8) R b := by
    rw [zup_eq]
    exact hR
  unfold frRank nRk
  rw [cx.up8.made ht]
  by_cases e : eWy w t = 0
  · rw [if_pos e, if_pos rfl, if_pos e]
    rfl
  · rw [if_neg e, if_neg (by decide), if_neg e, eGri cx.up8 hR' hb ht, show (1 : Int32) = nI 1 from rfl, nI_add, Nat.add_comm]
