/-! ===== 69.pureS: a number, a sign, a letter: both readers ===== -/
def eSame (R R' : Nat → Nat → Int32) : Prop := (∀ j, j ≠ 5 → j ≠ 6 → j ≠ 7 → R' 0 j = R 0 j) ∧ R' 1 = R 1 ∧ R' 2 = R 2
theorem eSame.refl {R : Nat → Nat → Int32} : eSame R R := ⟨fun _ _ _ _ => rfl, rfl, rfl⟩
theorem eSame.trans {A B C : Nat → Nat → Int32} (h : eSame A B) (g : eSame B C) : eSame A C := ⟨fun j a b c => (g.1 j a b c).trans (h.1 j a b c), g.2.1.trans h.2.1, g.2.2.trans h.2.2⟩
theorem eSame.set {R : Nat → Nat → Int32} {k : Nat} {v : Int32} (hk : k = 5 ∨ k = 6 ∨ k = 7) : eSame R (rSet R k v) := ⟨fun j a b c => eRs_n (by omega), eRs_j (by decide), eRs_j (by decide)⟩
section ETOK
variable {T : Nat → Int32} {L : Nat} {G : Nat → Nat → Int32}
def eBad (L : Nat) (G R : Nat → Nat → Int32) : Prop := ¬ R 0 5 = 0 ∧ qRead G L 0 22 = R 0 5 ∧ qRead G L 0 23 = R 0 6 ∧ ¬ R 0 5 = -9
theorem eBad.fl {R R' : Nat → Nat → Int32} (h : eBad L G R) (f : eFl R R') : eBad L G R' := by
  obtain ⟨h1, h2, h3, h4⟩ := h
  obtain ⟨f1, f2⟩ := f
  exact ⟨by rw [f1]; exact h1, by rw [f1]; exact h2, by rw [f2]; exact h3, by rw [f1]; exact h4⟩
theorem eBad.tell {R : Nat → Nat → Int32} {k w : Int32} (h0 : R 0 5 = 0) (hk : ¬ k = 0) (h : qRead G L 0 22 = k ∧ qRead G L 0 23 = w) (h9 : ¬ k = -9 := by decide) : eBad L G (rTell R k w) := by
  obtain ⟨e1, e2⟩ := eRt_0 (k := k) (w := w) h0
  exact ⟨by rw [e1]; exact hk, by rw [e1]; exact h.1, by rw [e2]; exact h.2, by rw [e1]; exact h9⟩
theorem eSkp (hx : eTx T L G) {p z : Nat} {X : Nat → Nat → Int32} (hp : p ≤ L) (hX : eMs G p = X) (h22 : X 0 22 = -9) (h24 : X 0 24 = nI z) (hz : z < 10) (h2 : z ≠ 2) (h5 : z ≠ 5) : ∃ q, p ≤ q ∧ q ≤ L ∧ rSkip T (nI L) 61 (nI p) = nI q ∧ (q < L → ¬ T q = 32) ∧ eMs G q = X := by
  have hL := hx.1
  obtain ⟨q, h1, h3, h4, h6, h7⟩ := rSkip_n (T := T) hx.1 61 p hp (by omega)
  have := eBlanks hx hX h22 h24 hz h2 h5 (q - p) (by omega) (fun i i1 i2 => h7 i i1 (by omega))
  rw [show p + (q - p) = q by omega] at this
  exact ⟨q, h1, h3, h4, h6, this⟩
theorem eSkp_same (hL : L ≤ 60) {q : Nat} (hq : q ≤ L) (h : q < L → ¬ T q = 32) : rSkip T (nI L) 61 (nI q) = nI q := by
  obtain ⟨r, h1, h3, h4, h6, h7⟩ := rSkip_n (T := T) hL 61 q hq (by omega)
  rw [h4]
  rcases Nat.lt_or_ge q r with hlt | hge
  · exact absurd (h7 q (Nat.le_refl _) hlt) (h (by omega))
  · rw [show r = q by omega]
theorem mIn_b {a b c : Nat} (hb : b < 1000) (hc : c < 1000) (ha : a < 1000) : mIn (nI a) (nI b) (nI c) = if b ≤ a ∧ a ≤ c then 1 else 0 := by
  unfold mIn
  by_cases h1 : nI a < nI b
  · have := (nI_ltI (by omega) (by omega)).mp h1
    rw [if_pos h1, if_neg (by omega)]
  · have h1' : ¬ a < b := fun h => h1 (nI_lt h (by omega))
    rw [if_neg h1]
    by_cases h2 : nI c < nI a
    · have := (nI_ltI (by omega) (by omega)).mp h2
      rw [if_pos h2, if_neg (by omega)]
    · have h2' : ¬ c < a := fun h => h2 (nI_lt h (by omega))
      rw [if_neg h2, if_pos (by omega)]
theorem eDigit (hx : eTx T L G) {p : Nat} (hp : p < L) : (mIn (T p) 48 57 = 0 ∧ ∃ b, 32 ≤ b ∧ b ≤ 126 ∧ T p = nI b ∧ ¬ (48 ≤ b ∧ b ≤ 57)) ∨ (¬ mIn (T p) 48 57 = 0 ∧ ∃ d, d ≤ 9 ∧ T p = nI (48 + d)) := by
  obtain ⟨-, b, h1, h2, e⟩ := hx.2.2 p hp
  have hm : mIn (T p) 48 57 = if 48 ≤ b ∧ b ≤ 57 then 1 else 0 := by rw [e]; exact mIn_b (a := b) (b := 48) (c := 57) (by decide) (by decide) (by omega)
  by_cases c : 48 ≤ b ∧ b ≤ 57
  · rw [hm, if_pos c]
    exact Or.inr ⟨by decide, b - 48, by omega, by rw [e]; congr 1; omega⟩
  · rw [hm, if_neg c]
    exact Or.inl ⟨rfl, b, h1, h2, e, c⟩
theorem rInc_7 {R : Nat → Nat → Int32} {p : Nat} (h : R 0 7 = nI p) : rInc R = rSet R 7 (nI (p + 1)) := by
  unfold rInc
  rw [h, nI_1]
/-- the end of a number that is read -/
theorem eNum_end (hx : eTx T L G) {q1 s n q0 : Nat} {Y : Nat → Nat → Int32} (hs : s = 1 ∨ s = 4) (hq : q1 ≤ L) (hY : eMs G q1 = Y) (h22 : Y 0 22 = -9) (h24 : Y 0 24 = nI (s + 1)) (h25 : Y 0 25 = nI n) (hn : n ≤ 99) (h27 : Y 0 27 = nI q0) (hnd : q1 < L → mIn (T q1) 48 57 = 0) :
    ((n < 1 ∨ 20 < n) → qRead G L 0 22 = 2 ∧ qRead G L 0 23 = nI q0) ∧
    (1 ≤ n → n ≤ 20 → ∃ q' Z, rSkip T (nI L) 61 (nI q1) = nI q' ∧ eRdy T L G q' (s + 2) Z ∧ Z 0 25 = nI n ∧ Z 0 19 = (if s = 1 then nI n else Y 0 19) ∧ (∀ i, i < 19 ∨ i = 20 → Z 0 i = Y 0 i) ∧ Z 11 = Y 11) := by
  have hnum : qIsNum Y = 1 := by rw [qIsNum_n h24 (by omega), if_pos (by omega)]
  have hin : mIn (Y 0 25) 1 20 = if 1 ≤ n ∧ n ≤ 20 then 1 else 0 := by rw [h25]; exact mIn_b (a := n) (b := 1) (c := 20) (by decide) (by decide) (by omega)
  constructor
  · intro hbad
    rw [if_neg (by omega)] at hin
    have hV : qEndV Y = 0 := by
      unfold qEndV
      rw [hnum, if_neg (by decide), if_pos hin]
    have hE : qEnd Y = qMark Y 2 (nI q0) := by
      unfold qEnd
      rw [hnum, if_neg (by decide), if_pos hin, h27]
    rcases Nat.lt_or_ge q1 L with hl | hl
    · refine qBad hl (X := Y) ?_ (by decide)
      rw [eMs_s, hY]
      have et : Y 4 q1 = T q1 := by rw [← hY, eMs_t]; exact (hx.2.2 q1 hl).1
      unfold qStep
      rw [if_pos h22, et, if_pos (hnd hl)]
      unfold qOth
      rw [if_pos hV, hE]
    · have hL : q1 = L := by omega
      subst hL
      have e : qRead G q1 = qMark Y 2 (nI q0) := by
        unfold qRead qFin
        show (if eMs G q1 0 22 = -9 then (if qEndV (eMs G q1) = 0 then qEnd (eMs G q1) else if qEnd (eMs G q1) 0 24 = 7 then qEnd (eMs G q1) else qMark (qEnd (eMs G q1)) 4 (eMs G q1 0 6)) else eMs G q1) = _
        rw [hY, if_pos h22, if_pos hV, hE]
      rw [e]
      unfold qMark
      exact ⟨by rw [qSet_n (by decide), qSet_k], qSet_k⟩
  · intro h1 h20
    rw [if_pos ⟨h1, h20⟩] at hin
    have hV : qEndV Y = 1 := by
      unfold qEndV
      rw [hnum, if_neg (by decide), hin, if_neg (by decide)]
    have hE : qEnd Y = qSet (qSet Y 19 (if s = 1 then nI n else Y 0 19)) 24 (nI (s + 2)) := by
      unfold qEnd
      rw [hnum, if_neg (by decide), hin, if_neg (by decide), h24, nI_1, h25]
      rcases hs with rfl | rfl
      · rfl
      · rfl
    generalize hZ : qSet (qSet Y 19 (if s = 1 then nI n else Y 0 19)) 24 (nI (s + 2)) = Z at hE
    have z24 : Z 0 24 = nI (s + 2) := by rw [← hZ, qSet_k]
    have z22 : Z 0 22 = -9 := by rw [← hZ, qSet_n (by decide), qSet_n (by decide)]; exact h22
    have z25 : Z 0 25 = nI n := by rw [← hZ, qSet_n (by decide), qSet_n (by decide)]; exact h25
    have z19 : Z 0 19 = if s = 1 then nI n else Y 0 19 := by rw [← hZ, qSet_n (by decide), qSet_k]
    have zi : ∀ i, i < 19 ∨ i = 20 → Z 0 i = Y 0 i := fun i hi => by rw [← hZ, qSet_n (by omega), qSet_n (by omega)]
    have z11 : Z 11 = Y 11 := by rw [← hZ, qSet_j (by decide), qSet_j (by decide)]
    by_cases c : q1 < L ∧ T q1 = 32
    · have et : Y 4 q1 = 32 := by rw [← hY, eMs_t, (hx.2.2 q1 c.1).1]; exact c.2
      have hM : eMs G (q1 + 1) = Z := by
        rw [eMs_s, hY]
        unfold qStep
        rw [if_pos h22, et, if_pos (by decide)]
        unfold qOth
        rw [hV, if_neg (by decide), et, if_pos rfl, hE]
      obtain ⟨q', k1, k2, k3, k4, k5⟩ := eSkp hx (p := q1 + 1) (by omega) hM z22 z24 (by omega) (by omega) (by omega)
      have hL := hx.1
      have e61 : rSkip T (nI L) 61 (nI q1) = nI q' := by
        obtain ⟨r, r1, r2, r3, r4, r5⟩ := rSkip_n (T := T) hx.1 61 q1 hq (by omega)
        obtain ⟨r', r1', r2', r3', r4', r5'⟩ := rSkip_n (T := T) hx.1 61 (q1 + 1) (by omega) (by omega)
        have hrr : r' = q' := by
          have := r3'.symm.trans k3
          exact (nI_eq (by omega) (by omega)).mp this
        subst hrr
        rw [r3]
        congr 1
        rcases Nat.lt_or_ge r r' with hlt | hge
        · have hr1 : r ≠ q1 := fun e => r4 (by omega) (by rw [e]; exact c.2)
          exact absurd (r5' r (by omega) hlt) (r4 (by omega))
        · rcases Nat.lt_or_ge r' r with hlt | hge2
          · exact absurd (r5 r' (by omega) hlt) (r4' (by omega))
          · omega
      exact ⟨q', Z, e61, eRdy.of k2 k4 k5 z22 z24 (by omega) (by omega) (by omega) (fun h => by omega), z25, z19, zi, z11⟩
    · have h32 : q1 < L → ¬ T q1 = 32 := fun h1 h2 => c ⟨h1, h2⟩
      refine ⟨q1, Z, eSkp_same hx.1 hq h32, ⟨hq, h32, by rw [hY]; exact h22, by rw [hY]; exact hV, by rw [hY]; exact hE, z24, fun h1 h2 => absurd (hnd h1) h2⟩, z25, z19, zi, z11⟩
/-- a number, or none: both readers -/
def eNumOk (T : Nat → Int32) (L : Nat) (G : Nat → Nat → Int32) (s : Nat) (X R R' : Nat → Nat → Int32) (v : Int32) : Prop := ∃ q q' n z Z, eSame R R' ∧ R' 0 5 = 0 ∧ R' 0 7 = nI q ∧ rSkip T (nI L) 61 (nI q) = nI q' ∧ eRdy T L G q' z Z ∧ v = nI n ∧ 1 ≤ n ∧ n ≤ 20 ∧
  ((z = s ∧ n = 1 ∧ Z = X) ∨ (z = s + 2 ∧ Z 0 25 = nI n ∧ Z 0 19 = (if s = 1 then nI n else X 0 19) ∧ (∀ i, i < 19 ∨ i = 20 → Z 0 i = X 0 i) ∧ Z 11 = X 11))
theorem eNum (hx : eTx T L G) {p s : Nat} {X R : Nat → Nat → Int32} (hs : s = 1 ∨ s = 4) (hp : p ≤ L) (hX : eMs G p = X) (h22 : X 0 22 = -9) (h24 : X 0 24 = nI s) (h5 : R 0 5 = 0) (h7 : R 0 7 = nI p) :
    eBad L G (rNum T (nI L) R) ∨ eNumOk T L G s X R (rNum T (nI L) R) (rNumV T (nI L) R) := by
  have hL := hx.1
  obtain ⟨q0, k1, k2, k3, k4, k5⟩ := eSkp hx hp hX h22 h24 (by omega) (by omega) (by omega)
  have eA : rSk T (nI L) R = rSet R 7 (nI q0) := by
    unfold rSk
    rw [h7, k3]
  unfold rNum rNumV
  rw [eA, eRs_k]
  by_cases c : rDig T (nI L) (nI q0) = 0
  · rw [if_pos c, if_pos c]
    have hnd : q0 < L → mIn (T q0) 48 57 = 0 := fun h => ((rDig_n hx.1 (by omega)).mp c).elim (fun h2 => by omega) id
    exact Or.inr ⟨q0, q0, 1, s, X, eSame.set (by omega), by rw [eRs_n (by decide)]; exact h5, eRs_k, eSkp_same hx.1 k2 k4, eRdy.of k2 k4 k5 h22 h24 (by omega) (by omega) (by omega) (fun _ => hnd), rfl, Nat.le_refl _, by decide, Or.inl ⟨rfl, rfl, rfl⟩⟩
  · rw [if_neg c, if_neg c]
    have hc := fun h => c ((rDig_n (T := T) hx.1 (p := q0) (by omega)).mpr h)
    have hq0 : q0 < L := by
      rcases Nat.lt_or_ge q0 L with h | h
      · exact h
      · exact absurd (Or.inl h) hc
    rcases eDigit hx hq0 with ⟨hd, -⟩ | ⟨hd, d1, hd9, eT1⟩
    · exact absurd (Or.inr hd) hc
    · have et0 : X 4 q0 = T q0 := by rw [← k5, eMs_t]; exact (hx.2.2 q0 hq0).1
      generalize hAA : rSet R 7 (nI q0) = A
      have a7 : A 0 7 = nI q0 := by rw [← hAA, eRs_k]
      have a5 : A 0 5 = 0 := by rw [← hAA, eRs_n (by decide)]; exact h5
      have aS : eSame R A := by rw [← hAA]; exact eSame.set (by omega)
      have hM1 : eMs G (q0 + 1) = qDig0 X q0 := by
        rw [eMs_s, k5]
        unfold qStep
        rw [if_pos h22, et0, if_neg hd]
        unfold qDig
        rw [h24]
        rcases hs with rfl | rfl
        · rw [if_pos (show nI 1 = 1 from rfl)]
        · rw [if_neg (by decide), if_pos (show nI 4 = 4 from rfl)]
      have y22 : qDig0 X q0 0 22 = -9 := by unfold qDig0; rw [qSet_n (by decide), qSet_n (by decide), qSet_n (by decide), qSet_n (by decide)]; exact h22
      have y24 : qDig0 X q0 0 24 = nI (s + 1) := by unfold qDig0; rw [qSet_n (by decide), qSet_n (by decide), qSet_n (by decide), qSet_k, h24, nI_1]
      have y25 : qDig0 X q0 0 25 = nI d1 := by
        unfold qDig0
        rw [qSet_n (by decide), qSet_n (by decide), qSet_k, et0, eT1, show (48 : Int32) = nI 48 from rfl, pk_sub (by omega)]
        congr 1
        omega
      have y26 : qDig0 X q0 0 26 = 1 := by unfold qDig0; rw [qSet_n (by decide), qSet_k]
      have y27 : qDig0 X q0 0 27 = nI q0 := by unfold qDig0; rw [qSet_k]
      have yi : ∀ i, i < 21 → qDig0 X q0 0 i = X 0 i := fun i hi => by unfold qDig0; rw [qSet_n (by omega), qSet_n (by omega), qSet_n (by omega), qSet_n (by omega)]
      have y11 : qDig0 X q0 11 = X 11 := by unfold qDig0; rw [qSet_j (by decide), qSet_j (by decide), qSet_j (by decide), qSet_j (by decide)]
      have eN1 : rN1 T (A 0 7) = nI d1 := by
        unfold rN1
        rw [a7, eAt (by omega) (by decide), eT1, show (48 : Int32) = nI 48 from rfl, pk_sub (by omega)]
        congr 1
        omega
      have ei : rInc A = rSet A 7 (nI (q0 + 1)) := rInc_7 a7
      have ei7 : rInc A 0 7 = nI (q0 + 1) := by rw [ei, eRs_k]
      -- the end, with n read up to q1
      have fin : ∀ (q1 n : Nat) (Y B : Nat → Nat → Int32), rN2 T (nI L) A = (nI n, B) → n ≤ 99 → q1 ≤ L → B 0 7 = nI q1 → B 0 5 = 0 → eSame R B → eMs G q1 = Y → Y 0 22 = -9 → Y 0 24 = nI (s + 1) → Y 0 25 = nI n → Y 0 27 = nI q0 → (∀ i, i < 21 → Y 0 i = X 0 i) → Y 11 = X 11 → (q1 < L → mIn (T q1) 48 57 = 0) →
          eBad L G (rN3 T (nI L) A) ∨ eNumOk T L G s X R (rN3 T (nI L) A) (rN2 T (nI L) A).1 := by
        intro q1 n Y B e2 hn hq1 b7 b5 bS hY g22 g24 g25 g27 gi g11 hnd
        have hE := eNum_end hx hs hq1 hY g22 g24 g25 hn g27 hnd
        unfold rN3
        rw [e2]
        dsimp only
        have hdd : rDig T (nI L) (B 0 7) = 0 := by
          rw [b7]
          refine (rDig_n hx.1 (by omega)).mpr ?_
          rcases Nat.lt_or_ge q1 L with h | h
          · exact Or.inr (hnd h)
          · exact Or.inl h
        rw [if_pos hdd]
        by_cases c1 : nI n < 1
        · rw [if_pos c1, a7]
          have hn0 : n < 1 := (nI_ltI (a := n) (b := 1) (by omega) (by decide)).mp c1
          exact Or.inl (eBad.tell b5 (by decide) (hE.1 (Or.inl hn0)))
        · have hn0 : 1 ≤ n := by
            rcases Nat.lt_or_ge n 1 with h | h
            · exact absurd (nI_lt (b := 1) h (by decide)) c1
            · exact h
          rw [if_neg c1]
          by_cases c2 : nI n ≤ 20
          · have hn20 : n ≤ 20 := (nI_leI (a := n) (b := 20) (by omega) (by decide)).mp c2
            rw [if_pos c2]
            obtain ⟨q', Z, k1, k2, k3, k4, k5, k6⟩ := hE.2 hn0 hn20
            refine Or.inr ⟨q1, q', n, s + 2, Z, bS, b5, b7, k1, k2, rfl, hn0, hn20, Or.inr ⟨rfl, k3, ?_, fun i hi => ?_, k6.trans g11⟩⟩
            · rw [k4, gi 19 (by decide)]
            · rw [k5 i hi, gi i (by omega)]
          · have hn20 : 20 < n := by
              rcases Nat.lt_or_ge 20 n with h | h
              · exact h
              · exact absurd (nI_le (b := 20) h (by decide)) c2
            rw [if_neg c2, a7]
            exact Or.inl (eBad.tell b5 (by decide) (hE.1 (Or.inr hn20)))
      by_cases c2 : rDig T (nI L) (rInc A 0 7) = 0
      · have e2 : rN2 T (nI L) A = (nI d1, rInc A) := by
          unfold rN2
          rw [if_pos c2, eN1]
        rw [ei7] at c2
        have hnd : q0 + 1 < L → mIn (T (q0 + 1)) 48 57 = 0 := fun h => ((rDig_n hx.1 (by omega)).mp c2).elim (fun h2 => by omega) id
        exact fin (q0 + 1) d1 (qDig0 X q0) (rInc A) e2 (by omega) (by omega) ei7 (by rw [ei, eRs_n (by decide)]; exact a5) (aS.trans (by rw [ei]; exact eSame.set (by omega))) hM1 y22 y24 y25 y27 yi y11 hnd
      · have hc2 := fun h => c2 (by rw [ei7]; exact (rDig_n (T := T) hx.1 (p := q0 + 1) (by omega)).mpr h)
        have hq1 : q0 + 1 < L := by
          rcases Nat.lt_or_ge (q0 + 1) L with h | h
          · exact h
          · exact absurd (Or.inl h) hc2
        rcases eDigit hx hq1 with ⟨hd2, -⟩ | ⟨hd2, d2, hd29, eT2⟩
        · exact absurd (Or.inr hd2) hc2
        · have eii : rInc (rInc A) = rSet (rInc A) 7 (nI (q0 + 2)) := rInc_7 ei7
          have e2 : rN2 T (nI L) A = (nI (10 * d1 + d2), rInc (rInc A)) := by
            unfold rN2
            rw [if_neg c2, eN1, ei7, eAt (by omega) (by decide), eT2, show (10 : Int32) = nI 10 from rfl, pk_mul, nI_add, show (48 : Int32) = nI 48 from rfl, pk_sub (by omega)]
            congr 2
            omega
          have et1 : qDig0 X q0 4 (q0 + 1) = T (q0 + 1) := by rw [← hM1, eMs_t]; exact (hx.2.2 (q0 + 1) hq1).1
          have hnum : qIsNum (qDig0 X q0) = 1 := by rw [qIsNum_n y24 (by omega), if_pos (by omega)]
          have hM2 : eMs G (q0 + 2) = qSet (qSet (qDig0 X q0) 25 (nI (10 * d1 + d2))) 26 2 := by
            show qStep (q0 + 1) (eMs G (q0 + 1)) = _
            rw [hM1]
            unfold qStep
            rw [if_pos y22, et1, if_neg hd2]
            unfold qDig
            rw [y24, hnum, y26, y25, et1, eT2, if_neg (show ¬ nI (s + 1) = (1 : Int32) from fun e => absurd ((nI_eq (a := s + 1) (b := 1) (by omega) (by decide)).mp e) (by omega)), if_neg (show ¬ nI (s + 1) = (4 : Int32) from fun e => absurd ((nI_eq (a := s + 1) (b := 4) (by omega) (by decide)).mp e) (by omega)), if_neg (by decide), if_pos rfl, show (10 : Int32) = nI 10 from rfl, pk_mul, nI_add, show (48 : Int32) = nI 48 from rfl, pk_sub (by omega), show 10 * d1 + (48 + d2) - 48 = 10 * d1 + d2 by omega]
          have b7 : rInc (rInc A) 0 7 = nI (q0 + 2) := by rw [eii, eRs_k]
          have b5 : rInc (rInc A) 0 5 = 0 := by rw [eii, eRs_n (by decide), ei, eRs_n (by decide)]; exact a5
          have bS : eSame R (rInc (rInc A)) := aS.trans (by rw [eii]; exact eSame.trans (by rw [ei]; exact eSame.set (by omega)) (eSame.set (by omega)))
          generalize hYY : qSet (qSet (qDig0 X q0) 25 (nI (10 * d1 + d2))) 26 2 = Y at hM2
          have g22 : Y 0 22 = -9 := by rw [← hYY, qSet_n (by decide), qSet_n (by decide)]; exact y22
          have g24 : Y 0 24 = nI (s + 1) := by rw [← hYY, qSet_n (by decide), qSet_n (by decide)]; exact y24
          have g25 : Y 0 25 = nI (10 * d1 + d2) := by rw [← hYY, qSet_n (by decide), qSet_k]
          have g26 : Y 0 26 = 2 := by rw [← hYY, qSet_k]
          have g27 : Y 0 27 = nI q0 := by rw [← hYY, qSet_n (by decide), qSet_n (by decide)]; exact y27
          have gi : ∀ i, i < 21 → Y 0 i = X 0 i := fun i hi => by rw [← hYY, qSet_n (by omega), qSet_n (by omega)]; exact yi i hi
          have g11 : Y 11 = X 11 := by rw [← hYY, qSet_j (by decide), qSet_j (by decide)]; exact y11
          by_cases c3 : q0 + 2 < L ∧ ¬ mIn (T (q0 + 2)) 48 57 = 0
          · refine Or.inl ?_
            unfold rN3
            rw [e2]
            dsimp only
            have hdd : ¬ rDig T (nI L) (rInc (rInc A) 0 7) = 0 := by
              rw [b7]
              exact fun h => ((rDig_n hx.1 (by omega)).mp h).elim (fun h => by omega) c3.2
            rw [if_neg hdd, b7]
            refine eBad.tell b5 (by decide) (qBad c3.1 (X := Y) ?_ (by decide))
            have et2 : Y 4 (q0 + 2) = T (q0 + 2) := by rw [← hM2, eMs_t]; exact (hx.2.2 (q0 + 2) c3.1).1
            rw [eMs_s, hM2]
            unfold qStep
            rw [if_pos g22, et2, if_neg c3.2]
            unfold qDig
            rw [g24, if_neg (show ¬ nI (s + 1) = (1 : Int32) from fun e => absurd ((nI_eq (a := s + 1) (b := 1) (by omega) (by decide)).mp e) (by omega)), if_neg (show ¬ nI (s + 1) = (4 : Int32) from fun e => absurd ((nI_eq (a := s + 1) (b := 4) (by omega) (by decide)).mp e) (by omega)), if_neg (by rw [qIsNum_n g24 (by omega), if_pos (by omega)]; decide), g26, if_neg (by decide)]
          · refine fin (q0 + 2) (10 * d1 + d2) Y (rInc (rInc A)) e2 (by omega) (by omega) b7 b5 bS hM2 g22 g24 g25 g27 gi g11 (fun h => ?_)
            by_cases c4 : mIn (T (q0 + 2)) 48 57 = 0
            · exact c4
            · exact absurd ⟨h, c4⟩ c3
end ETOK
