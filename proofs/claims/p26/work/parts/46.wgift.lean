/-! ===== 46.wgift: bringing, and the best gift ===== -/
theorem wBeg_b {W S : Nat → Nat → Int32} {g : Int32} : wBegin W S g 1 6 = S 0 6 := by
  unfold wBegin
  rw [zup_ne (by decide)]
  show zput W (1 + 0) 7 _ (1 + 0) 6 = _
  rw [zput_at (by decide)]
  unfold sCopy
  rw [zup_eq, upd_eq]
def pBr (S : Nat → Nat → Int32) (t d : Int32) : Nat → Nat → Int32 := va_up (va_up S 1 (cAdd 20 (S 1) t d)) 6 (cAdd 20 (S 6) t d)
theorem pBr_add (a b c d e n : Int32) : (a + n) - b - c + d - e = a - b - c + d - e + n := by grind
theorem sOk.bring {S : Nat → Nat → Int32} {N t b : Nat} {d : Int32} (h : sOk S N) (ht : t < 20) (hb : b ≤ 99999) (e : S 1 t + d = nI b) : sOk (pBr S (nI t) d) N := by
  obtain ⟨h1, h2, h3⟩ := h
  unfold pBr
  rw [eAdd ht (by decide), eAdd ht (by decide)]
  refine ⟨fun u hu => ?_, fun u hu => ?_, ?_⟩
  · simp (disch := omega) only [zup_ne, zup_eq]
    by_cases c : u = t
    · subst c
      rw [upd_eq, e]
      exact ⟨b, hb, rfl⟩
    · rw [upd_ne c]
      exact h1 u hu
  · simp (disch := omega) only [zup_ne, zup_eq]
    by_cases c : u = t
    · subst c
      rw [upd_eq, upd_eq, pBr_add, h2 u hu]
    · rw [upd_ne c, upd_ne c]
      exact h2 u hu
  · simp (disch := omega) only [zup_ne, zup_eq]
    exact h3
theorem bgRec_q {S : Nat → Nat → Int32} {i : Nat} (W : Nat → Nat → Int32) : eWq 6 (wBegin zZero (pBr S (nI i) 1) 1) (bgRec W S i) := by
  unfold bgRec
  obtain ⟨b1, b2, b3, b4⟩ := wBeg_0 (W := W) (S := S) (g := 1)
  obtain ⟨c1, c2, c3, c4⟩ := wBeg_0 (W := zZero) (S := pBr S (nI i) 1) (g := 1)
  refine ⟨fun k h1 h4 => ?_, ?_, fun j t h2 h6 ht => ?_⟩
  · rw [zup_ne (by decide)]
    have : k = 1 ∨ k = 2 ∨ k = 3 ∨ k = 4 := by omega
    rcases this with rfl | rfl | rfl | rfl
    · rw [b1, c1]
    · rw [b2, c2]
    · rw [b3, c3]
    · rw [b4, c4]
  · rw [zup_ne (by decide), wBeg_b, wBeg_b]
    unfold pBr
    rw [zup_ne (by decide), zup_ne (by decide)]
  · obtain ⟨q, rfl⟩ : ∃ q, j = q + 1 := ⟨j - 1, by omega⟩
    rw [wBeg_r (S := pBr S (nI i) 1) (by omega) (by omega) ht]
    by_cases c : q = 1
    · subst c
      rw [zup_eq]
      unfold pBr
      rw [zup_ne (by decide), zup_eq]
      exact cAdd_q (by decide) (fun u hu => wBeg_r (j := 1) (by decide) (by decide) hu) _ _ t ht
    · rw [zup_ne (by omega), wBeg_r (by omega) (by omega) ht]
      unfold pBr
      rw [zup_ne (by omega), zup_ne (by omega)]
section PGIFT
variable {B : Nat → Nat → Int32} {w : Nat → Int32} {r : Nat → Nat} {S : Nat → Nat → Int32} {N t n g0 : Nat}
/-- what would be gathered, as a number -/
theorem pGat_n (cx : eCx B w) (hrk : eRk w r) (hS : sOk S N) (ht : t < 20) (hn : n ≤ 1000) (h : pW B S (nI t) (nI n) 0 2 = 0) : ∃ g, g ≤ 60000 ∧ pW B S (nI t) (nI n) 0 4 = nI g := by
  rcases pFul (W := zZero) cx hrk hS ht hn with hf | ⟨bt, g, M, M0, a0, a, h1, h2, h3, h4, h5, -⟩
  · exact absurd h hf
  · exact ⟨g, h5, h4.2.2.2.2.2.1⟩
theorem pBg_spec (cx : eCx B w) (hrk : eRk w r) (hS : sOk S N) (ht : t < 20) (hn : n ≤ 1000) (hg0 : g0 ≤ 60000) (W : Nat → Nat → Int32) :
    ∀ k, k ≤ 20 → ∃ l, (it (bgStep B S (nI t) (nI n)) k (nI g0, -9, W)).1 = nI l ∧ l ≤ g0 ∧ (((it (bgStep B S (nI t) (nI n)) k (nI g0, -9, W)).2.1 = -9 ∧ l = g0) ∨ ∃ i b, i < 20 ∧ (it (bgStep B S (nI t) (nI n)) k (nI g0, -9, W)).2.1 = nI i ∧ 1 ≤ b ∧ b ≤ 99999 ∧ S 1 i + 1 = nI b ∧ pGat B (pBr S (nI i) 1) (nI t) (nI n) = nI l ∧ l < g0) := by
  intro k
  induction k with
  | zero => exact fun _ => ⟨g0, rfl, Nat.le_refl _, Or.inl ⟨rfl, rfl⟩⟩
  | succ k ih =>
    intro hk
    rw [it_s]
    obtain ⟨l, h1, h2, h3⟩ := ih (by omega)
    generalize it (bgStep B S (nI t) (nI n)) k (nI g0, -9, W) = s at h1 h3 ⊢
    have hk20 : k < 20 := by omega
    obtain ⟨a, ha, ea⟩ := hS.1 k hk20
    have e2 : cAt 20 (bgRec s.2.2 S k 2) (nI k) = nI (a + 1) := by
      rw [eAt hk20 (by decide), (bgRec_q (S := S) (i := k) s.2.2).2.2 2 k (by decide) (by decide) hk20, wBeg_r (j := 1) (by decide) (by decide) hk20]
      unfold pBr
      rw [zup_ne (by decide), zup_eq, eAdd hk20 (by decide), upd_eq, ea]
      exact nI_1 a
    have hq : eWq 6 (pW B (pBr S (nI k) 1) (nI t) (nI n)) (wFul B (bgRec s.2.2 S k) (nI t) (nI n)) := (bgRec_q s.2.2).ful (by decide) _ _
    unfold bgStep
    rw [e2]
    by_cases c : (99999 : Int32) < nI (a + 1)
    · rw [if_pos c]
      exact ⟨l, h1, h2, h3⟩
    · rw [if_neg c]
      have ha1 : a + 1 ≤ 99999 := by
        rcases Nat.lt_or_ge 99999 (a + 1) with q | q
        · exact absurd (nI_lt q (by omega)) c
        · exact q
      have eb : S 1 k + 1 = nI (a + 1) := by
        rw [ea]
        exact nI_1 a
      have hS' := hS.bring (d := 1) hk20 ha1 eb
      rw [hq.1 2 (by decide) (by decide), hq.1 4 (by decide) (by decide)]
      by_cases c2 : pW B (pBr S (nI k) 1) (nI t) (nI n) 0 2 = 0
      · rw [if_pos c2]
        obtain ⟨g, hg, eg⟩ := pGat_n cx hrk hS' ht hn c2
        rw [eg, h1]
        by_cases c3 : nI l ≤ nI g
        · rw [if_pos c3]
          exact ⟨l, rfl, h2, h3⟩
        · rw [if_neg c3]
          have hlt : g < l := by
            rcases Nat.lt_or_ge g l with q | q
            · exact q
            · exact absurd (nI_le q (by omega)) c3
          refine ⟨g, rfl, by omega, Or.inr ⟨k, a + 1, hk20, rfl, by omega, ha1, eb, ?_, by omega⟩⟩
          unfold pGat
          rw [if_pos c2, eg]
      · rw [if_neg c2]
        exact ⟨l, h1, h2, h3⟩
end PGIFT
