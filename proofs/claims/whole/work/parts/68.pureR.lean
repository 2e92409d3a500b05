/-! ===== 68.pureR: the two readers ===== -/
/-! the class's steps keep a fault -/
def eFl (R R' : Nat → Nat → Int32) : Prop := R' 0 5 = R 0 5 ∧ R' 0 6 = R 0 6
theorem eRs_k {R : Nat → Nat → Int32} {k : Nat} {v : Int32} : rSet R k v 0 k = v := by
  unfold rSet
  rw [zup_eq, upd_eq]
theorem eRs_n {R : Nat → Nat → Int32} {k j : Nat} {v : Int32} (h : j ≠ k) : rSet R k v 0 j = R 0 j := by
  unfold rSet
  rw [zup_eq, upd_ne h]
theorem eRs_j {R : Nat → Nat → Int32} {k j : Nat} {v : Int32} (h : j ≠ 0) : rSet R k v j = R j := zup_ne h
theorem eRt_f {R : Nat → Nat → Int32} {k w : Int32} (h : ¬ R 0 5 = 0) : rTell R k w = R := if_neg h
theorem eRt_0 {R : Nat → Nat → Int32} {k w : Int32} (h : R 0 5 = 0) : rTell R k w 0 5 = k ∧ rTell R k w 0 6 = w := by
  unfold rTell
  rw [if_pos h]
  exact ⟨by rw [eRs_n (by decide), eRs_k], eRs_k⟩
theorem eRk_f {T : Nat → Int32} {len : Int32} {R : Nat → Nat → Int32} : eFl R (rSk T len R) := ⟨eRs_n (by decide), eRs_n (by decide)⟩
theorem eRi_f {R : Nat → Nat → Int32} : eFl R (rInc R) := ⟨eRs_n (by decide), eRs_n (by decide)⟩
theorem eFl.trans {A B C : Nat → Nat → Int32} (h : eFl A B) (g : eFl B C) : eFl A C := ⟨g.1.trans h.1, g.2.trans h.2⟩
theorem eFl.refl {A : Nat → Nat → Int32} : eFl A A := ⟨rfl, rfl⟩
section ESTICK
variable {T : Nat → Int32} {len : Int32} {R : Nat → Nat → Int32}
theorem eFl_let (h : ¬ R 0 5 = 0) : eFl R (rLet T len R) := by
  have h2 : ¬ rSk T len R 0 5 = 0 := by rw [eRk_f.1]; exact h
  unfold rLet
  refine eFl.trans ?_ eRi_f
  split
  · split
    · rw [eRt_f h2]
      exact eRk_f
    · exact eRk_f
  · rw [eRt_f h2]
    exact eRk_f
theorem eFl_sign {s : Int32} (h : ¬ R 0 5 = 0) : eFl R (rSign T len s R) := by
  have h2 : ¬ rSk T len R 0 5 = 0 := by rw [eRk_f.1]; exact h
  unfold rSign
  refine eFl.trans ?_ eRi_f
  split
  · split
    · exact eRk_f
    · rw [eRt_f h2]
      exact eRk_f
  · rw [eRt_f h2]
    exact eRk_f
theorem eFl_n2 : eFl R (rN2 T len R).2 := by
  unfold rN2
  split
  · exact eRi_f
  · exact eRi_f.trans eRi_f
theorem eFl_num (h : ¬ R 0 5 = 0) : eFl R (rNum T len R) := by
  unfold rNum
  split
  · exact eRk_f
  · refine (eRk_f (T := T) (len := len)).trans ?_
    have h2 : ¬ rSk T len R 0 5 = 0 := by rw [eRk_f.1]; exact h
    generalize rSk T len R = A at h2 ⊢
    have h3 : ¬ (rN2 T len A).2 0 5 = 0 := by rw [eFl_n2.1]; exact h2
    unfold rN3
    split
    · split
      · rw [eRt_f h3]
        exact eFl_n2
      · split
        · exact eFl_n2
        · rw [eRt_f h3]
          exact eFl_n2
    · rw [eRt_f h3]
      exact eFl_n2
theorem eFl_ing (h : ¬ R 0 5 = 0) : eFl R (rIng T len R) := by
  have h1 := eFl_num (T := T) (len := len) h
  have h2 : ¬ rNum T len R 0 5 = 0 := by rw [h1.1]; exact h
  have h3 := eFl_let (T := T) (len := len) h2
  have h4 : ¬ rIng0 T len R 0 5 = 0 := by
    unfold rIng0
    rw [h3.1]
    exact h2
  unfold rIng
  rw [if_neg h4]
  exact h1.trans h3
theorem eFl_step {s : (Nat → Nat → Int32) × Bool} (h : ¬ s.1 0 5 = 0) (n : Nat) : eFl s.1 (it (rStep T len) n s).1 := by
  induction n with
  | zero => exact eFl.refl
  | succ n ih =>
    rw [it_s]
    generalize it (rStep T len) n s = z at ih ⊢
    have hz : ¬ z.1 0 5 = 0 := by rw [ih.1]; exact h
    refine ih.trans ?_
    unfold rStep
    split
    · exact eFl.refl
    · split
      · exact eRk_f
      · have h2 : ¬ rSk T len z.1 0 5 = 0 := by rw [eRk_f.1]; exact hz
        have h3 := eFl_sign (T := T) (len := len) (s := 43) h2
        exact eRk_f.trans (h3.trans (eFl_ing (by rw [h3.1]; exact h2)))
end ESTICK
/-! the model, from place to place -/
section EMOD
variable {T : Nat → Int32} {L : Nat} {G : Nat → Nat → Int32}
/-- the texts are the same, of L bytes from 32 to 126 -/
def eTx (T : Nat → Int32) (L : Nat) (G : Nat → Nat → Int32) : Prop := L ≤ 60 ∧ G 0 6 = nI L ∧ ∀ i, i < L → G 4 i = T i ∧ ∃ b, 32 ≤ b ∧ b ≤ 126 ∧ T i = nI b
def eMs (G : Nat → Nat → Int32) (p : Nat) : Nat → Nat → Int32 := it qStep p (qInit G)
theorem eMs_s {p : Nat} : eMs G (p + 1) = qStep p (eMs G p) := rfl
theorem eMs_t (p : Nat) : eMs G p 4 = G 4 := (qI.it (G := G) p).1 4 (by decide) (by decide)
theorem eMs_6 (p : Nat) : eMs G p 0 6 = G 0 6 := (qI.it (G := G) p).2.1 6 (by decide)
theorem qBad {k : Nat} {X : Nat → Nat → Int32} {a b : Int32} (hk : k < L) (h : eMs G (k + 1) = qMark X a b) (ha : ¬ a = -9) : qRead G L 0 22 = a ∧ qRead G L 0 23 = b := by
  have hm : ¬ qMark X a b 0 22 = -9 := by
    unfold qMark
    rw [qSet_n (by decide), qSet_k]
    exact ha
  have e : it qStep L (qInit G) = qMark X a b := by
    rw [← h]
    exact it_stick (f := qStep) (p := fun s => ¬ s 0 22 = -9) (fun i s h => qStep_stick h) (i := k + 1) (by show ¬ eMs G (k + 1) 0 22 = -9; rw [h]; exact hm) L (by omega)
  unfold qRead qFin
  rw [e, if_neg hm]
  unfold qMark
  exact ⟨by rw [qSet_n (by decide), qSet_k], qSet_k⟩
/-- at the place p, which is no blank, with all numbers ended -/
def eRdy (T : Nat → Int32) (L : Nat) (G : Nat → Nat → Int32) (p z : Nat) (Z : Nat → Nat → Int32) : Prop := p ≤ L ∧ (p < L → ¬ T p = 32) ∧ eMs G p 0 22 = -9 ∧ qEndV (eMs G p) = 1 ∧ qEnd (eMs G p) = Z ∧ Z 0 24 = nI z ∧ (p < L → ¬ mIn (T p) 48 57 = 0 → qDig (eMs G p) p = qMark (eMs G p) 1 (nI p))
theorem eRdy.step {p z c : Nat} {Z : Nat → Nat → Int32} (hx : eTx T L G) (h : eRdy T L G p z Z) (hp : p < L) (hd : mIn (T p) 48 57 = 0) (hc : c ≤ 5) (h20 : Z 0 20 = nI c) : eMs G (p + 1) = qO0 Z p c := by
  obtain ⟨-, h32, h22, hV, hE, -, -⟩ := h
  have et : eMs G p 4 p = T p := by rw [eMs_t]; exact (hx.2.2 p hp).1
  have e20 : eMs G p 0 20 = nI c := by
    rw [← h20, ← hE, qEnd_n (by omega)]
  rw [eMs_s]
  unfold qStep
  rw [if_pos h22, et, if_pos hd, e20, nI_clamp (by omega)]
  unfold qOth
  rw [hV, if_neg (by decide), et, if_neg (h32 hp), hE]
theorem eRdy.bad {p z c : Nat} {Z : Nat → Nat → Int32} (hx : eTx T L G) (h : eRdy T L G p z Z) (hp : p < L) (hc : c ≤ 5) (h20 : Z 0 20 = nI c) (hno : mIn (T p) 48 57 = 0 → qO0 Z p c = qMark Z 1 (nI p)) : qRead G L 0 22 = 1 ∧ qRead G L 0 23 = nI p := by
  by_cases hd : mIn (T p) 48 57 = 0
  · exact qBad hp ((h.step hx hp hd hc h20).trans (hno hd)) (by decide)
  · refine qBad hp (X := eMs G p) ?_ (by decide)
    have et : eMs G p 4 p = T p := by rw [eMs_t]; exact (hx.2.2 p hp).1
    rw [eMs_s]
    unfold qStep
    rw [if_pos h.2.2.1, et, if_neg hd]
    exact h.2.2.2.2.2.2 hp hd
theorem eRdy.end {z : Nat} {Z : Nat → Nat → Int32} (hx : eTx T L G) (h : eRdy T L G L z Z) (hz : z < 7) : qRead G L 0 22 = 4 ∧ qRead G L 0 23 = nI L := by
  obtain ⟨-, -, h22, hV, hE, h24, -⟩ := h
  have e : qRead G L = qMark Z 4 (nI L) := by
    unfold qRead qFin
    show (if eMs G L 0 22 = -9 then (if qEndV (eMs G L) = 0 then qEnd (eMs G L) else if qEnd (eMs G L) 0 24 = 7 then qEnd (eMs G L) else qMark (qEnd (eMs G L)) 4 (eMs G L 0 6)) else eMs G L) = _
    rw [if_pos h22, hV, if_neg (by decide), hE, h24, if_neg (show ¬ nI z = (7 : Int32) from fun e => absurd ((nI_eq (a := z) (b := 7) (by omega) (by decide)).mp e) (by omega)), eMs_6, hx.2.1]
  rw [e]
  unfold qMark
  exact ⟨by rw [qSet_n (by decide), qSet_k], qSet_k⟩
theorem eRdy.fin {Z : Nat → Nat → Int32} (h : eRdy T L G L 7 Z) : qRead G L = Z := by
  obtain ⟨-, -, h22, hV, hE, h24, -⟩ := h
  unfold qRead qFin
  show (if eMs G L 0 22 = -9 then (if qEndV (eMs G L) = 0 then qEnd (eMs G L) else if qEnd (eMs G L) 0 24 = 7 then qEnd (eMs G L) else qMark (qEnd (eMs G L)) 4 (eMs G L 0 6)) else eMs G L) = _
  rw [if_pos h22, hV, if_neg (by decide), hE, h24, if_pos (show nI 7 = 7 from rfl)]
theorem qIsNum_n {X : Nat → Nat → Int32} {z : Nat} (h : X 0 24 = nI z) (hz : z < 10) : qIsNum X = if z = 2 ∨ z = 5 then 1 else 0 := by
  unfold qIsNum
  rw [h]
  by_cases h2 : z = 2
  · subst h2
    rfl
  · rw [if_neg (show ¬ nI z = (2 : Int32) from fun e => h2 ((nI_eq (a := z) (b := 2) (by omega) (by decide)).mp e))]
    by_cases h5 : z = 5
    · subst h5
      rfl
    · rw [if_neg (show ¬ nI z = (5 : Int32) from fun e => h5 ((nI_eq (a := z) (b := 5) (by omega) (by decide)).mp e)), if_neg (by omega)]
/-- blanks change nothing outside a number -/
theorem eBlanks (hx : eTx T L G) {z p : Nat} {X : Nat → Nat → Int32} (hX : eMs G p = X) (h22 : X 0 22 = -9) (h24 : X 0 24 = nI z) (hz : z < 10) (h2 : z ≠ 2) (h5 : z ≠ 5) : ∀ n, p + n ≤ L → (∀ i, p ≤ i → i < p + n → T i = 32) → eMs G (p + n) = X := by
  intro n
  induction n with
  | zero => exact fun _ _ => hX
  | succ n ih =>
    intro hl hb
    have ih := ih (by omega) (fun i h1 h2 => hb i h1 (by omega))
    have e32 := hb (p + n) (by omega) (by omega)
    have et : eMs G (p + n) 4 (p + n) = 32 := by rw [eMs_t, (hx.2.2 (p + n) (by omega)).1]; exact e32
    rw [ih] at et
    obtain ⟨c, hc, h20⟩ := (qI.it (G := G) (p + n)).2.2
    have h20' : X 0 20 = nI c := by rw [← ih]; exact h20
    have hnum : qIsNum X = 0 := by rw [qIsNum_n h24 hz, if_neg (by omega)]
    show qStep (p + n) (eMs G (p + n)) = X
    rw [ih]
    unfold qStep
    rw [if_pos h22, et, if_pos (by decide), h20', nI_clamp (by omega)]
    unfold qOth qEndV qEnd
    rw [if_pos hnum, if_neg (by decide), et, if_pos rfl, if_pos hnum]
theorem qDig_bad {X : Nat → Nat → Int32} {z p : Nat} (h24 : X 0 24 = nI z) (hz : z < 10) (h1 : z ≠ 1) (h4 : z ≠ 4) (h2 : z ≠ 2) (h5 : z ≠ 5) : qDig X p = qMark X 1 (nI p) := by
  unfold qDig
  rw [h24, if_neg (show ¬ nI z = (1 : Int32) from fun e => h1 ((nI_eq (a := z) (b := 1) (by omega) (by decide)).mp e)), if_neg (show ¬ nI z = (4 : Int32) from fun e => h4 ((nI_eq (a := z) (b := 4) (by omega) (by decide)).mp e)), if_pos (by rw [qIsNum_n h24 hz, if_neg (by omega)])]
/-- ready, outside a number -/
theorem eRdy.of {p z : Nat} {X : Nat → Nat → Int32} (hp : p ≤ L) (h32 : p < L → ¬ T p = 32) (hX : eMs G p = X) (h22 : X 0 22 = -9) (h24 : X 0 24 = nI z) (hz : z < 10) (h2 : z ≠ 2) (h5 : z ≠ 5) (hd : z = 1 ∨ z = 4 → p < L → mIn (T p) 48 57 = 0) : eRdy T L G p z X := by
  have hnum : qIsNum X = 0 := by rw [qIsNum_n h24 hz, if_neg (by omega)]
  refine ⟨hp, h32, by rw [hX]; exact h22, ?_, ?_, h24, fun hl hdig => ?_⟩
  · rw [hX]
    unfold qEndV
    rw [if_pos hnum]
  · rw [hX]
    unfold qEnd
    rw [if_pos hnum]
  · rw [hX]
    by_cases h : z = 1 ∨ z = 4
    · exact absurd (hd h hl) hdig
    · exact qDig_bad h24 hz (by omega) (by omega) h2 h5
/-! the class's places -/
theorem rSkip_n (hL : L ≤ 60) : ∀ f p, p ≤ L → L - p < f → ∃ q, p ≤ q ∧ q ≤ L ∧ rSkip T (nI L) f (nI p) = nI q ∧ (q < L → ¬ T q = 32) ∧ ∀ i, p ≤ i → i < q → T i = 32 := by
  intro f
  induction f with
  | zero => exact fun p _ h => absurd h (Nat.not_lt_zero _)
  | succ f ih =>
    intro p hp hf
    unfold rSkip
    by_cases c : nI L ≤ nI p
    · have : L = p := by
        have := (nI_leI (by omega) (by omega)).mp c
        omega
      rw [if_pos c]
      exact ⟨p, Nat.le_refl _, hp, rfl, fun h => by omega, fun i h1 h2 => by omega⟩
    · have hlt : p < L := by
        rcases Nat.lt_or_ge p L with h | h
        · exact h
        · exact absurd (nI_le h (by omega)) c
      rw [if_neg c, eAt (show p < 60 by omega) (by decide)]
      by_cases c2 : T p = 32
      · rw [if_pos c2, nI_1]
        obtain ⟨q, h1, h2, h3, h4, h5⟩ := ih (p + 1) (by omega) (by omega)
        refine ⟨q, by omega, h2, h3, h4, fun i i1 i2 => ?_⟩
        by_cases e : i = p
        · rw [e]
          exact c2
        · exact h5 i (by omega) i2
      · rw [if_neg c2]
        exact ⟨p, Nat.le_refl _, hp, rfl, fun _ => c2, fun i h1 h2 => by omega⟩
theorem rDig_n (hL : L ≤ 60) {p : Nat} (hp : p ≤ 61) : rDig T (nI L) (nI p) = 0 ↔ (L ≤ p ∨ mIn (T p) 48 57 = 0) := by
  unfold rDig
  by_cases c : nI L ≤ nI p
  · rw [if_pos c]
    exact ⟨fun _ => Or.inl ((nI_leI (by omega) (by omega)).mp c), fun _ => rfl⟩
  · have hlt : p < L := by
      rcases Nat.lt_or_ge p L with h | h
      · exact h
      · exact absurd (nI_le h (by omega)) c
    rw [if_neg c, eAt (show p < 60 by omega) (by decide)]
    unfold mIn
    constructor
    · intro h
      exact Or.inr h
    · rintro (h | h)
      · omega
      · exact h
end EMOD
