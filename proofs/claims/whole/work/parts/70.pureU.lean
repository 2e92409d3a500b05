/-! ===== 70.pureU: letter, sign, ingredient, the whole text: both readers ===== -/
theorem eThing : ∀ b, b < 127 → cIsThing (nI b - 97) = if 97 ≤ b ∧ b ≤ 116 then 1 else 0 := by decide +kernel
theorem eRdy.z22 {T : Nat → Int32} {L : Nat} {G : Nat → Nat → Int32} {p z : Nat} {Z : Nat → Nat → Int32} (h : eRdy T L G p z Z) : Z 0 22 = -9 := by
  obtain ⟨-, -, h22, hV, hE, -⟩ := h
  rw [← hE]
  unfold qEndV at hV
  unfold qEnd
  by_cases c : qIsNum (eMs G p) = 0
  · rw [if_pos c]
    exact h22
  · rw [if_neg c] at hV ⊢
    by_cases c2 : mIn (eMs G p 0 25) 1 20 = 0
    · rw [if_pos c2] at hV
      cases hV
    · rw [if_neg c2, qSet_n (by decide), qSet_n (by decide)]
      exact h22
theorem eRdy.z4 {T : Nat → Int32} {L : Nat} {G : Nat → Nat → Int32} {p z : Nat} {Z : Nat → Nat → Int32} (h : eRdy T L G p z Z) : Z 4 = G 4 := by
  obtain ⟨-, -, h22, hV, hE, -⟩ := h
  rw [← hE, qEnd_j (by decide), eMs_t]
theorem eNz {z k : Nat} (hz : z < 10) (hk : k < 10) (h : z ≠ k) : ¬ nI z = nI k := fun e => h ((nI_eq (by omega) (by omega)).mp e)
section EREAD
variable {T : Nat → Int32} {L : Nat} {G : Nat → Nat → Int32}
/-- no letter, no sign: what is no piece of a recipe -/
theorem qO0_bad {Z : Nat → Nat → Int32} {p c z : Nat} (h24 : Z 0 24 = nI z) (hz : z < 8) (hl : z = 0 ∨ z = 4 ∨ z = 6 → qLet Z p = 0) (he : z = 1 ∨ z = 3 → ¬ Z 4 p = 61) (hp : z = 7 → ¬ Z 4 p = 43) : qO0 Z p c = qMark Z 1 (nI p) := by
  have n0 : z ≠ 0 → ¬ Z 0 24 = 0 := fun h => by rw [h24]; exact eNz (k := 0) (by omega) (by decide) h
  have n1 : z ≠ 1 → ¬ Z 0 24 = 1 := fun h => by rw [h24]; exact eNz (k := 1) (by omega) (by decide) h
  have n3 : z ≠ 3 → ¬ Z 0 24 = 3 := fun h => by rw [h24]; exact eNz (k := 3) (by omega) (by decide) h
  have n4 : z ≠ 4 → ¬ Z 0 24 = 4 := fun h => by rw [h24]; exact eNz (k := 4) (by omega) (by decide) h
  have n6 : z ≠ 6 → ¬ Z 0 24 = 6 := fun h => by rw [h24]; exact eNz (k := 6) (by omega) (by decide) h
  have n7 : z ≠ 7 → ¬ Z 0 24 = 7 := fun h => by rw [h24]; exact eNz (k := 7) (by omega) (by decide) h
  have h3 : qO3 Z p = qMark Z 1 (nI p) := by
    unfold qO3
    by_cases c7 : z = 7
    · rw [if_pos (by rw [h24, c7]; rfl), if_neg (hp c7)]
    · rw [if_neg (n7 c7)]
  have h2 : qO2 Z p c = qMark Z 1 (nI p) := by
    unfold qO2
    by_cases c4 : z = 4
    · rw [if_pos (by rw [h24, c4]; rfl), if_pos (hl (by omega)), h3]
    · rw [if_neg (n4 c4)]
      by_cases c6 : z = 6
      · rw [if_pos (by rw [h24, c6]; rfl), if_pos (hl (by omega)), h3]
      · rw [if_neg (n6 c6), h3]
  have h1 : qO1 Z p c = qMark Z 1 (nI p) := by
    unfold qO1
    by_cases c1 : z = 1
    · rw [if_pos (by rw [h24, c1]; rfl), if_neg (he (by omega)), h2]
    · rw [if_neg (n1 c1)]
      by_cases c3 : z = 3
      · rw [if_pos (by rw [h24, c3]; rfl), if_neg (he (by omega)), h2]
      · rw [if_neg (n3 c3), h2]
  unfold qO0
  by_cases c0 : z = 0
  · rw [if_pos (by rw [h24, c0]; rfl), if_pos (hl (by omega)), h1]
  · rw [if_neg (n0 c0), h1]
theorem rInc_rs {R : Nat → Nat → Int32} {q : Nat} : rInc (rSet R 7 (nI q)) = rSet R 7 (nI (q + 1)) := by rw [rInc_7 eRs_k, rSet_set]
/-- a letter: both readers -/
theorem eLet (hx : eTx T L G) {q z c : Nat} {Z R : Nat → Nat → Int32} (hs : rSkip T (nI L) 61 (R 0 7) = nI q) (h : eRdy T L G q z Z) (hz : z = 0 ∨ z = 4 ∨ z = 6) (hc : c ≤ 5) (h20 : Z 0 20 = nI c) (h5 : R 0 5 = 0) :
    eBad L G (rLet T (nI L) R) ∨ ∃ t, t < 20 ∧ q < L ∧ rLetV T (nI L) R = nI t ∧ rLet T (nI L) R = rSet R 7 (nI (q + 1)) ∧ ¬ qLet Z q = 0 ∧ Z 4 q - 97 = nI t ∧ eMs G (q + 1) = qO0 Z q c := by
  have hL := hx.1
  have hq := h.1
  have eA : rSk T (nI L) R = rSet R 7 (nI q) := by
    unfold rSk
    rw [hs]
  have a7 : rSet R 7 (nI q) 0 7 = nI q := eRs_k
  have a5 : rSet R 7 (nI q) 0 5 = 0 := by rw [eRs_n (by decide)]; exact h5
  unfold rLet rLetV
  rw [eA, a7]
  rcases Nat.lt_or_ge q L with hl | hl
  · obtain ⟨eg, b, b1, b2, eb⟩ := hx.2.2 q hl
    have eZ : Z 4 q = nI b := by rw [h.z4, eg, eb]
    have ec : cAt 60 T (nI q) = nI b := by rw [eAt (by omega) (by decide), eb]
    have hT := eThing b (by omega)
    have hm : qLet Z q = if 97 ≤ b ∧ b ≤ 116 then 1 else 0 := by unfold qLet; rw [eZ]; exact mIn_b (a := b) (b := 97) (c := 116) (by decide) (by decide) (by omega)
    rw [if_pos (nI_lt hl (by omega)), ec]
    by_cases ct : 97 ≤ b ∧ b ≤ 116
    · rw [if_pos ct] at hT hm
      rw [if_neg (by rw [hT]; decide), rInc_rs]
      have e1 : nI b - 97 = nI (b - 97) := pk_sub (b := 97) (by omega)
      refine Or.inr ⟨b - 97, by omega, hl, e1, rfl, by rw [hm]; decide, by rw [eZ]; exact e1, h.step hx hl ?_ hc h20⟩
      rw [eb]
      exact (mIn_b (a := b) (b := 48) (c := 57) (by decide) (by decide) (by omega)).trans (if_neg (by omega))
    · rw [if_neg ct] at hT hm
      rw [if_pos hT]
      refine Or.inl ((eBad.tell a5 (by decide) (h.bad hx hl hc h20 fun _ => ?_)).fl eRi_f)
      exact qO0_bad h.2.2.2.2.2.1 (by omega) (fun _ => hm) (fun _ => by omega) (fun _ => by omega)
  · have e : q = L := by omega
    subst e
    rw [if_neg (fun h => absurd ((nI_ltI (by omega) (by omega)).mp h) (Nat.lt_irrefl _))]
    exact Or.inl ((eBad.tell a5 (by decide) (h.end hx (by omega))).fl eRi_f)
/-- a sign: both readers -/
theorem eSign (hx : eTx T L G) {q z c s : Nat} {Z R : Nat → Nat → Int32} (hs : rSkip T (nI L) 61 (R 0 7) = nI q) (h : eRdy T L G q z Z) (hz : s = 61 ∧ (z = 1 ∨ z = 3) ∨ s = 43 ∧ z = 7 ∧ q < L) (hc : c ≤ 5) (h20 : Z 0 20 = nI c) (h5 : R 0 5 = 0) :
    eBad L G (rSign T (nI L) (nI s) R) ∨ (q < L ∧ rSign T (nI L) (nI s) R = rSet R 7 (nI (q + 1)) ∧ eMs G (q + 1) = qSet Z 24 4) := by
  have hL := hx.1
  have hq := h.1
  have eA : rSk T (nI L) R = rSet R 7 (nI q) := by
    unfold rSk
    rw [hs]
  have a7 : rSet R 7 (nI q) 0 7 = nI q := eRs_k
  have a5 : rSet R 7 (nI q) 0 5 = 0 := by rw [eRs_n (by decide)]; exact h5
  have h24 := h.2.2.2.2.2.1
  unfold rSign
  rw [eA, a7]
  rcases Nat.lt_or_ge q L with hl | hl
  · obtain ⟨eg, b, b1, b2, eb⟩ := hx.2.2 q hl
    have eZ : Z 4 q = nI b := by rw [h.z4, eg, eb]
    have ec : cAt 60 T (nI q) = nI b := by rw [eAt (by omega) (by decide), eb]
    rw [if_pos (nI_lt hl (by omega)), ec]
    by_cases ct : b = s
    · rw [if_pos (by rw [ct]), rInc_rs]
      refine Or.inr ⟨hl, rfl, ?_⟩
      rw [h.step hx hl (by rw [eb]; exact (mIn_b (a := b) (b := 48) (c := 57) (by decide) (by decide) (by omega)).trans (if_neg (by omega))) hc h20]
      unfold qO0
      rw [if_neg (by rw [h24]; exact eNz (k := 0) (by omega) (by decide) (by omega))]
      unfold qO1
      rcases hz with ⟨hs61, rfl | rfl⟩ | ⟨hs43, rfl, -⟩
      · rw [if_pos (by rw [h24]; rfl), if_pos (by rw [eZ, ct, hs61]; rfl)]
      · rw [if_neg (by rw [h24]; decide), if_pos (by rw [h24]; rfl), if_pos (by rw [eZ, ct, hs61]; rfl)]
      · rw [if_neg (by rw [h24]; decide), if_neg (by rw [h24]; decide)]
        unfold qO2
        rw [if_neg (by rw [h24]; decide), if_neg (by rw [h24]; decide)]
        unfold qO3
        rw [if_pos (by rw [h24]; rfl), if_pos (by rw [eZ, ct, hs43]; rfl)]
    · have hne : ∀ k, k < 127 → b ≠ k → ¬ nI b = nI k := fun k hk h2 e => h2 ((nI_eq (by omega) (by omega)).mp e)
      rw [if_neg (hne s (by omega) ct)]
      refine Or.inl ((eBad.tell a5 (by decide) (h.bad hx hl hc h20 fun _ => ?_)).fl eRi_f)
      refine qO0_bad h24 (by omega) (fun _ => by omega) (fun h1 => ?_) (fun h1 => ?_)
      · rw [eZ]
        exact hne 61 (by decide) (by omega)
      · rw [eZ]
        exact hne 43 (by decide) (by omega)
  · have e : q = L := by omega
    subst e
    rw [if_neg (fun h => absurd ((nI_ltI (by omega) (by omega)).mp h) (Nat.lt_irrefl _))]
    exact Or.inl ((eBad.tell a5 (by decide) (h.end hx (by omega))).fl eRi_f)
/-- what both have read -/
def eDat (c : Nat) (R X : Nat → Nat → Int32) : Prop := X 0 22 = -9 ∧ X 0 20 = nI c ∧ c ≤ 5 ∧ R 0 5 = 0 ∧ R 0 4 = nI c ∧
  (∃ a, a < 20 ∧ X 0 18 = nI a ∧ R 0 2 = nI a) ∧ (∃ y, 1 ≤ y ∧ y ≤ 20 ∧ X 0 19 = nI y ∧ R 0 3 = nI y) ∧
  ∀ k, k < c → ∃ t n, t < 20 ∧ 1 ≤ n ∧ n ≤ 20 ∧ X 11 (2 * k) = nI t ∧ R 1 k = nI t ∧ X 11 (2 * k + 1) = nI n ∧ R 2 k = nI n
def eRel (G : Nat → Nat → Int32) (L c z p : Nat) (R X : Nat → Nat → Int32) : Prop := p ≤ L ∧ eMs G p = X ∧ X 0 24 = nI z ∧ R 0 7 = nI p ∧ eDat c R X
theorem eDat.same {c : Nat} {R R' X X' : Nat → Nat → Int32} (h : eDat c R X) (hs : eSame R R') (h5 : R' 0 5 = 0) (h22 : X' 0 22 = -9) (hi : ∀ i, i = 18 ∨ i = 19 ∨ i = 20 → X' 0 i = X 0 i) (h11 : X' 11 = X 11) : eDat c R' X' := by
  obtain ⟨-, g20, gc, -, g4, ⟨a, ha, a1, a2⟩, ⟨y, y1, y20, e1, e2⟩, gk⟩ := h
  obtain ⟨s0, s1, s2⟩ := hs
  refine ⟨h22, (hi 20 (by omega)).trans g20, gc, h5, (s0 4 (by decide) (by decide) (by decide)).trans g4, ⟨a, ha, (hi 18 (by omega)).trans a1, (s0 2 (by decide) (by decide) (by decide)).trans a2⟩, ⟨y, y1, y20, (hi 19 (by omega)).trans e1, (s0 3 (by decide) (by decide) (by decide)).trans e2⟩, fun k hk => ?_⟩
  rw [h11, s1, s2]
  exact gk k hk
/-- an ingredient: both readers -/
theorem eIng (hx : eTx T L G) {p c : Nat} {R X : Nat → Nat → Int32} (h : eRel G L c 4 p R X) :
    eBad L G (rIng T (nI L) R) ∨ ∃ p' X', eRel G L (c + 1) 7 p' (rIng T (nI L) R) X' := by
  obtain ⟨hp, hX, h24, h7, hD⟩ := h
  have hL := hx.1
  have hD' := hD
  obtain ⟨h22, h20, hc, h5, h4, -, -, hk⟩ := hD'
  rcases eNum hx (s := 4) (R := R) (Or.inr rfl) hp hX h22 h24 h5 h7 with hb | ⟨q, q', n, z, Z, nS, n5, n7, nsk, nR, nv, n1, n20, nz⟩
  · left
    have h1 : ¬ rNum T (nI L) R 0 5 = 0 := hb.1
    have h3 := eFl_let (T := T) (len := nI L) h1
    have h4 : ¬ rIng0 T (nI L) R 0 5 = 0 := by
      unfold rIng0
      rw [h3.1]
      exact h1
    unfold rIng
    rw [if_neg h4]
    exact hb.fl h3
  · have hz : z = 4 ∨ z = 6 := by omega
    have Zi : ∀ i, i = 18 ∨ i = 19 ∨ i = 20 → Z 0 i = X 0 i := by
      rcases nz with ⟨-, -, rfl⟩ | ⟨-, -, k2, k3, -⟩
      · exact fun _ _ => rfl
      · intro i hi
        by_cases h19 : i = 19
        · subst h19
          exact k2
        · exact k3 i (by omega)
    have Z11 : Z 11 = X 11 := by
      rcases nz with ⟨-, -, rfl⟩ | ⟨-, -, -, -, k⟩
      · rfl
      · exact k
    have Z22 := nR.z22
    have Z20 : Z 0 20 = nI c := (Zi 20 (by omega)).trans h20
    rcases eLet hx (R := rNum T (nI L) R) (by rw [n7]; exact nsk) nR (by omega) hc Z20 n5 with hb | ⟨t, ht, hql, eV, eL, qL, qT, eM⟩
    · left
      have h4 : ¬ rIng0 T (nI L) R 0 5 = 0 := hb.1
      unfold rIng
      rw [if_neg h4]
      exact hb
    · have eI : rIng0 T (nI L) R = rSet (rNum T (nI L) R) 7 (nI (q' + 1)) := eL
      have i5 : rIng0 T (nI L) R 0 5 = 0 := by rw [eI, eRs_n (by decide)]; exact n5
      have i7 : rIng0 T (nI L) R 0 7 = nI (q' + 1) := by rw [eI, eRs_k]
      have i4 : rIng0 T (nI L) R 0 4 = nI c := by rw [eI, eRs_n (by decide), nS.1 4 (by decide) (by decide) (by decide)]; exact h4
      have iS : eSame R (rIng0 T (nI L) R) := by rw [eI]; exact nS.trans (eSame.set (by omega))
      have eM2 : eMs G (q' + 1) = qIng Z (nI t) (nI n) (nI q') c := by
        have h24 := nR.2.2.2.2.2.1
        rw [eM]
        unfold qO0
        rw [if_neg (by rw [h24]; exact eNz (k := 0) (by omega) (by decide) (by omega))]
        unfold qO1
        rw [if_neg (by rw [h24]; exact eNz (k := 1) (by omega) (by decide) (by omega)), if_neg (by rw [h24]; exact eNz (k := 3) (by omega) (by decide) (by omega))]
        unfold qO2
        rcases nz with ⟨rfl, rfl, rfl⟩ | ⟨rfl, k1, k2, k3, -⟩
        · rw [if_pos (by rw [h24]; rfl), if_neg qL, qT]
          rfl
        · rw [if_neg (by rw [h24]; decide), if_pos (by rw [h24]; rfl), if_neg qL, qT, k1]
      have hth : qThere Z (nI t) c c = 0 ↔ (c ≠ 5 ∧ ¬ rList (rIng0 T (nI L) R) (nI t) = true) := by
        rw [qThere_0]
        have e5 : (¬ nI c = 5) ↔ c ≠ 5 := by
          refine ⟨fun h e => h (by rw [e]; rfl), fun h e => h ((nI_eq (a := c) (b := 5) (by omega) (by decide)).mp e)⟩
        rw [e5]
        refine and_congr_right fun _ => ?_
        unfold rList
        rw [i4, nI_clamp (by omega), anyLt_iff]
        rw [iS.2.1, Z11]
        constructor
        · rintro h ⟨i, hi, he⟩
          obtain ⟨t', n', -, -, -, e1, e2, -⟩ := hk i hi
          refine h i hi ?_
          rw [eAt (by omega) (by decide)] at he
          rw [e1, ← e2]
          exact eq_of_beq he
        · intro h i hi he
          obtain ⟨t', n', -, -, -, e1, e2, -⟩ := hk i hi
          refine h ⟨i, hi, ?_⟩
          rw [eAt (by omega) (by decide), e2, ← e1, he]
          exact beq_self_eq_true _
      have hpl : q' + 1 ≤ L := hql
      have ebk : rIng0 T (nI L) R 0 7 - 1 = nI q' := by
        rw [i7]
        exact (pk_sub (b := 1) (by omega)).trans (congrArg nI (by omega))
      unfold rIng
      rw [if_pos i5, eV, nv, i4]
      have hbad : ¬ qThere Z (nI t) c c = 0 → eBad L G (rTell (rIng0 T (nI L) R) 3 (rIng0 T (nI L) R 0 7 - 1)) := by
        intro hno
        refine eBad.tell i5 (by decide) ?_
        rw [ebk]
        refine qBad hql (X := Z) ?_ (by decide)
        rw [eM2]
        unfold qIng
        rw [if_neg hno]
      by_cases c5 : c = 5
      · rw [if_pos (by rw [c5]; decide)]
        exact Or.inl (hbad fun h => (hth.mp h).1 c5)
      · have c5' : ¬ (5 : Int32) ≤ nI c := fun h => c5 (by have := (nI_leI (a := 5) (b := c) (by decide) (by omega)).mp h; omega)
        rw [if_neg c5']
        by_cases cl : rList (rIng0 T (nI L) R) (nI t) = true
        · rw [if_pos cl]
          exact Or.inl (hbad fun h => (hth.mp h).2 cl)
        · rw [if_neg cl]
          have hth0 := hth.mpr ⟨c5, cl⟩
          have eM3 : eMs G (q' + 1) = qIng1 Z (nI t) (nI n) c := by
            rw [eM2]
            unfold qIng
            rw [if_pos hth0]
          refine Or.inr ⟨q' + 1, qIng1 Z (nI t) (nI n) c, hpl, eM3, by unfold qIng1; rw [qSet_k]; rfl, ?_, ?_⟩
          · unfold rAdd
            rw [eRs_n (by decide), zup_ne (by decide), zup_ne (by decide)]
            exact i7
          · have x0 : ∀ i, i ≠ 20 → i ≠ 24 → qIng1 Z (nI t) (nI n) c 0 i = Z 0 i := fun i h1 h2 => by unfold qIng1; rw [qSet_n h2, qSet_n h1, zup_ne (by decide)]
            have r0 : ∀ i, i ≠ 4 → i ≠ 5 → i ≠ 6 → i ≠ 7 → rAdd (rIng0 T (nI L) R) (nI t) (nI n) 0 i = R 0 i := fun i h1 h2 h3 h4 => by unfold rAdd; rw [eRs_n h1, zup_ne (by decide), zup_ne (by decide)]; exact iS.1 i h2 h3 h4
            obtain ⟨-, -, -, -, -, ⟨a, ha, a1, a2⟩, ⟨y, y1, y20, e1, e2⟩, -⟩ := hD
            refine ⟨(x0 22 (by decide) (by decide)).trans Z22, by unfold qIng1; rw [qSet_n (by decide), qSet_k], by omega, ?_, ?_, ⟨a, ha, ?_, ?_⟩, ⟨y, y1, y20, ?_, ?_⟩, fun k hk1 => ?_⟩
            · unfold rAdd
              rw [eRs_n (by decide), zup_ne (by decide), zup_ne (by decide)]
              exact i5
            · unfold rAdd
              rw [eRs_k, i4]
              exact nI_1 c
            · rw [x0 18 (by decide) (by decide), Zi 18 (by omega)]
              exact a1
            · rw [r0 2 (by decide) (by decide) (by decide) (by decide)]
              exact a2
            · rw [x0 19 (by decide) (by decide), Zi 19 (by omega)]
              exact e1
            · rw [r0 3 (by decide) (by decide) (by decide) (by decide)]
              exact e2
            · have eX : qIng1 Z (nI t) (nI n) c 11 = upd (upd (X 11) (2 * c) (nI t)) (2 * c + 1) (nI n) := by unfold qIng1; rw [qSet_j (by decide), qSet_j (by decide), zup_eq, Z11]
              have e1' : rAdd (rIng0 T (nI L) R) (nI t) (nI n) 1 = upd (R 1) c (nI t) := by
                unfold rAdd
                rw [eRs_j (by decide), zup_ne (by decide), zup_eq, i4, ePut (by omega) (by decide), iS.2.1]
              have e2' : rAdd (rIng0 T (nI L) R) (nI t) (nI n) 2 = upd (R 2) c (nI n) := by
                unfold rAdd
                rw [eRs_j (by decide), zup_eq, i4, ePut (by omega) (by decide), iS.2.2]
              rw [eX, e1', e2']
              by_cases ek : k = c
              · subst ek
                exact ⟨t, n, ht, n1, n20, by rw [upd_ne (by omega), upd_eq], upd_eq, upd_eq, upd_eq⟩
              · obtain ⟨t', n', k1, k2, k3, k4, k5, k6, k7⟩ := hk k (by omega)
                exact ⟨t', n', k1, k2, k3, by rw [upd_ne (by omega), upd_ne (by omega)]; exact k4, by rw [upd_ne ek]; exact k5, by rw [upd_ne (by omega), upd_ne (by omega)]; exact k6, by rw [upd_ne ek]; exact k7⟩
/-- the loop: both readers -/
theorem eLoop (hx : eTx T L G) {p : Nat} {R X : Nat → Nat → Int32} (h : eRel G L 1 7 p R X) : ∀ n, eBad L G (it (rStep T (nI L)) n (R, false)).1 ∨ ((it (rStep T (nI L)) n (R, false)).2 = true ∧ ∃ c, 1 ≤ c ∧ eDat c (it (rStep T (nI L)) n (R, false)).1 (qRead G L)) ∨
    ((it (rStep T (nI L)) n (R, false)).2 = false ∧ ∃ p' X', eRel G L (n + 1) 7 p' (it (rStep T (nI L)) n (R, false)).1 X') := by
  intro n
  induction n with
  | zero => exact Or.inr (Or.inr ⟨rfl, p, X, h⟩)
  | succ n ih =>
    have hfl : ¬ (it (rStep T (nI L)) n (R, false)).1 0 5 = 0 → eFl (it (rStep T (nI L)) n (R, false)).1 (it (rStep T (nI L)) (n + 1) (R, false)).1 := by
      intro hb
      rw [it_s]
      generalize it (rStep T (nI L)) n (R, false) = z at hb ⊢
      unfold rStep
      split
      · exact eFl.refl
      · split
        · exact eRk_f
        · have h2 : ¬ rSk T (nI L) z.1 0 5 = 0 := by rw [eRk_f.1]; exact hb
          have h3 := eFl_sign (T := T) (len := nI L) (s := 43) h2
          exact eRk_f.trans (h3.trans (eFl_ing (by rw [h3.1]; exact h2)))
    rcases ih with hb | ⟨e2, c, hc, hd⟩ | ⟨e2, p', X', hr⟩
    · exact Or.inl (hb.fl (hfl hb.1))
    · right
      left
      have : it (rStep T (nI L)) (n + 1) (R, false) = it (rStep T (nI L)) n (R, false) := by
        rw [it_s]
        generalize it (rStep T (nI L)) n (R, false) = s at e2 ⊢
        unfold rStep
        rw [if_pos e2]
      rw [this]
      exact ⟨e2, c, hc, hd⟩
    · rw [it_s]
      generalize it (rStep T (nI L)) n (R, false) = s at e2 hr ⊢
      obtain ⟨hp, hX, h24, h7, hD⟩ := hr
      have hL := hx.1
      obtain ⟨q, k1, k2, k3, k4, k5⟩ := eSkp hx hp hX hD.1 h24 (by decide) (by decide) (by decide)
      have eA : rSk T (nI L) s.1 = rSet s.1 7 (nI q) := by
        unfold rSk
        rw [h7, k3]
      have a7 : rSk T (nI L) s.1 0 7 = nI q := by rw [eA, eRs_k]
      have a5 : rSk T (nI L) s.1 0 5 = 0 := by rw [eA, eRs_n (by decide)]; exact hD.2.2.2.1
      have aS : eSame s.1 (rSk T (nI L) s.1) := by rw [eA]; exact eSame.set (by omega)
      have hR7 : eRdy T L G q 7 X' := eRdy.of k2 k4 k5 hD.1 h24 (by decide) (by decide) (by decide) (fun h => by omega)
      have eD : eDat (n + 1) (rSk T (nI L) s.1) X' := hD.same aS a5 hD.1 (fun _ _ => rfl) rfl
      unfold rStep
      rw [if_neg (by rw [e2]; decide)]
      unfold rMoreV
      rw [if_pos a5, a7]
      rcases Nat.lt_or_ge q L with hl | hl
      · have hnl : ¬ nI L ≤ nI q := fun h => by have := (nI_leI (by omega) (by omega)).mp h; omega
        rw [if_neg (show ¬ (if nI L ≤ nI q then (0 : Int32) else 1) = 0 by rw [if_neg hnl]; decide)]
        have hks : rSkip T (nI L) 61 (rSk T (nI L) s.1 0 7) = nI q := by rw [a7]; exact eSkp_same hx.1 k2 k4
        rcases eSign hx (s := 43) hks hR7 (Or.inr ⟨rfl, rfl, hl⟩) hD.2.2.1 eD.2.1 a5 with hb | ⟨-, e1, eM⟩
        · exact Or.inl (hb.fl (eFl_ing hb.1))
        · have eM' : eRel G L (n + 1) 4 (q + 1) (rSign T (nI L) 43 (rSk T (nI L) s.1)) (qSet X' 24 4) := by
            refine ⟨hl, eM, qSet_k, ?_, ?_⟩
            · rw [show (43 : Int32) = nI 43 from rfl, e1, eRs_k]
            · refine eD.same ?_ ?_ ?_ (fun i hi => qSet_n (by omega)) (qSet_j (by decide))
              · rw [show (43 : Int32) = nI 43 from rfl, e1]
                exact eSame.set (by omega)
              · rw [show (43 : Int32) = nI 43 from rfl, e1, eRs_n (by decide)]
                exact a5
              · rw [qSet_n (by decide)]
                exact hD.1
          rcases eIng hx eM' with hb | ⟨p'', X'', hr⟩
          · exact Or.inl hb
          · exact Or.inr (Or.inr ⟨rfl, p'', X'', hr⟩)
      · have e : q = L := by omega
        subst e
        rw [if_pos (show (if nI q ≤ nI q then (0 : Int32) else 1) = 0 from if_pos (nI_le (Nat.le_refl _) (by omega)))]
        exact Or.inr (Or.inl ⟨rfl, n + 1, by omega, by rw [hR7.fin]; exact eD⟩)
/-- both readers read the same -/
theorem eRead (hx : eTx T L G) (R : Nat → Nat → Int32) : eBad L G (rRead T (nI L) R) ∨ ∃ c, 1 ≤ c ∧ eDat c (rRead T (nI L) R) (qRead G L) := by
  have hL := hx.1
  have h0 : eBad L G (rRead0 T (nI L) R) ∨ ∃ p X, eRel G L 1 7 p (rRead0 T (nI L) R) X := by
    unfold rRead0
    dsimp only
    generalize hA : rSet (rSet (rSet (rSet R 7 0) 4 0) 5 0) 6 0 = A
    have a7 : A 0 7 = nI 0 := by rw [← hA, eRs_n (by decide), eRs_n (by decide), eRs_n (by decide), eRs_k]; rfl
    have a4 : A 0 4 = nI 0 := by rw [← hA, eRs_n (by decide), eRs_n (by decide), eRs_k]; rfl
    have a5 : A 0 5 = 0 := by rw [← hA, eRs_n (by decide), eRs_k]
    have x22 : qInit G 0 22 = -9 := by unfold qInit; rw [qSet_n (by decide), qSet_n (by decide), qSet_n (by decide)]; unfold qMark; rw [qSet_n (by decide), qSet_k]
    have x24 : qInit G 0 24 = nI 0 := by unfold qInit; rw [qSet_k]; rfl
    have x20 : qInit G 0 20 = nI 0 := by unfold qInit; rw [qSet_n (by decide), qSet_k]; rfl
    have x19 : qInit G 0 19 = nI 1 := by unfold qInit; rw [qSet_n (by decide), qSet_n (by decide), qSet_k]; rfl
    obtain ⟨q, k1, k2, k3, k4, k5⟩ := eSkp hx (p := 0) (X := qInit G) (by omega) rfl x22 x24 (by decide) (by decide) (by decide)
    have hR0 : eRdy T L G q 0 (qInit G) := eRdy.of k2 k4 k5 x22 x24 (by decide) (by decide) (by decide) (fun h => by omega)
    rcases eLet hx (R := A) (by rw [a7]; exact k3) hR0 (Or.inl rfl) (by decide) x20 a5 with hb | ⟨t, ht, hql, eV, eL, qL, qT, eM⟩
    · left
      have f1 : eFl (rLet T (nI L) A) (rSet (rLet T (nI L) A) 2 (rLetV T (nI L) A)) := ⟨eRs_n (by decide), eRs_n (by decide)⟩
      have b1 := hb.fl f1
      generalize rSet (rLet T (nI L) A) 2 (rLetV T (nI L) A) = B at b1 ⊢
      have b2 := b1.fl (eFl_num (T := T) (len := nI L) b1.1)
      have b3 := b2.fl (show eFl (rNum T (nI L) B) (rSet (rNum T (nI L) B) 3 (rNumV T (nI L) B)) from ⟨eRs_n (by decide), eRs_n (by decide)⟩)
      have b4 := b3.fl (eFl_sign (T := T) (len := nI L) (s := 61) b3.1)
      exact b4.fl (eFl_ing (T := T) (len := nI L) b4.1)
    · rw [eL, eV]
      have eM2 : eMs G (q + 1) = qSet (qSet (qInit G) 18 (nI t)) 24 1 := by
        rw [eM]
        unfold qO0
        rw [if_pos (show qInit G 0 24 = 0 from x24), if_neg qL, qT]
      generalize hX1 : qSet (qSet (qInit G) 18 (nI t)) 24 1 = X1 at eM2
      have y22 : X1 0 22 = -9 := by rw [← hX1, qSet_n (by decide), qSet_n (by decide)]; exact x22
      have y24 : X1 0 24 = nI 1 := by rw [← hX1, qSet_k]; rfl
      have y20 : X1 0 20 = nI 0 := by rw [← hX1, qSet_n (by decide), qSet_n (by decide)]; exact x20
      have y19 : X1 0 19 = nI 1 := by rw [← hX1, qSet_n (by decide), qSet_n (by decide)]; exact x19
      have y18 : X1 0 18 = nI t := by rw [← hX1, qSet_n (by decide), qSet_k]
      generalize hB : rSet (rSet A 7 (nI (q + 1))) 2 (nI t) = B
      have b7 : B 0 7 = nI (q + 1) := by rw [← hB, eRs_n (by decide), eRs_k]
      have b5 : B 0 5 = 0 := by rw [← hB, eRs_n (by decide), eRs_n (by decide)]; exact a5
      have b4 : B 0 4 = nI 0 := by rw [← hB, eRs_n (by decide), eRs_n (by decide)]; exact a4
      have b2 : B 0 2 = nI t := by rw [← hB, eRs_k]
      rcases eNum hx (s := 1) (R := B) (Or.inl rfl) hql eM2 y22 y24 b5 b7 with hb | ⟨q1, q', n, z, Z, nS, n5, n7, nsk, nR, nv, n1, n20, nz⟩
      · left
        have c3 := hb.fl (show eFl (rNum T (nI L) B) (rSet (rNum T (nI L) B) 3 (rNumV T (nI L) B)) from ⟨eRs_n (by decide), eRs_n (by decide)⟩)
        have c4 := c3.fl (eFl_sign (T := T) (len := nI L) (s := 61) c3.1)
        exact c4.fl (eFl_ing (T := T) (len := nI L) c4.1)
      · rw [nv]
        have hz : z = 1 ∨ z = 3 := by omega
        have Z18 : Z 0 18 = nI t := by
          rcases nz with ⟨-, -, rfl⟩ | ⟨-, -, k2, k3, -⟩
          · exact y18
          · rw [k3 18 (by decide)]
            exact y18
        have Z20 : Z 0 20 = nI 0 := by
          rcases nz with ⟨-, -, rfl⟩ | ⟨-, -, k2, k3, -⟩
          · exact y20
          · rw [k3 20 (by decide)]
            exact y20
        have Z19 : Z 0 19 = nI n := by
          rcases nz with ⟨-, rfl, rfl⟩ | ⟨-, -, k2, k3, -⟩
          · exact y19
          · rw [k2]
            exact if_pos rfl
        have Z22 := nR.z22
        generalize hC : rSet (rNum T (nI L) B) 3 (nI n) = C
        have c7 : C 0 7 = nI q1 := by rw [← hC, eRs_n (by decide)]; exact n7
        have c5 : C 0 5 = 0 := by rw [← hC, eRs_n (by decide)]; exact n5
        have c4 : C 0 4 = nI 0 := by rw [← hC, eRs_n (by decide), nS.1 4 (by decide) (by decide) (by decide)]; exact b4
        have c2 : C 0 2 = nI t := by rw [← hC, eRs_n (by decide), nS.1 2 (by decide) (by decide) (by decide)]; exact b2
        have c3 : C 0 3 = nI n := by rw [← hC, eRs_k]
        rcases eSign hx (s := 61) (R := C) (by rw [c7]; exact nsk) nR (Or.inl ⟨rfl, hz⟩) (by decide) Z20 c5 with hb | ⟨hql', e1, eM'⟩
        · exact Or.inl (hb.fl (eFl_ing hb.1))
        · refine eIng hx (p := q' + 1) (X := qSet Z 24 4) ⟨hql', eM', qSet_k, ?_, ?_⟩
          · rw [show (61 : Int32) = nI 61 from rfl, e1, eRs_k]
          · rw [show (61 : Int32) = nI 61 from rfl, e1]
            exact ⟨by rw [qSet_n (by decide)]; exact Z22, by rw [qSet_n (by decide)]; exact Z20, by decide, by rw [eRs_n (by decide)]; exact c5, by rw [eRs_n (by decide)]; exact c4, ⟨t, ht, by rw [qSet_n (by decide)]; exact Z18, by rw [eRs_n (by decide)]; exact c2⟩, ⟨n, n1, n20, by rw [qSet_n (by decide)]; exact Z19, by rw [eRs_n (by decide)]; exact c3⟩, fun k hk => absurd hk (Nat.not_lt_zero _)⟩
  unfold rRead
  rcases h0 with hb | ⟨p, X, hr⟩
  · exact Or.inl (hb.fl (eFl_step (s := (rRead0 T (nI L) R, false)) hb.1 5))
  · rcases eLoop hx hr 5 with hb | ⟨-, c, hc, hd⟩ | ⟨-, p', X', hr'⟩
    · exact Or.inl hb
    · exact Or.inr ⟨c, hc, hd⟩
    · exact absurd hr'.2.2.2.2.2.2.1 (by decide)
end EREAD
