/-! ===== 48.reader2: what is read without a fault is a recipe ===== -/
theorem eSame.eq {A B : Nat → Nat → Int32} (h : A = B) : eSame A B := by
  rw [h]
  exact eSame.refl
section RD
variable {T : Nat → Int32} {len : Int32} {R : Nat → Nat → Int32}
theorem rTell_nz {R : Nat → Nat → Int32} {k w : Int32} (hk : ¬ k = 0) : ¬ rTell R k w 0 5 = 0 := by
  by_cases h : R 0 5 = 0
  · rw [(eRt_0 h).1]
    exact hk
  · rw [eRt_f h]
    exact h
theorem rSk_5 : rSk T len R 0 5 = R 0 5 := eRs_n (by decide)
theorem rSk_same : eSame R (rSk T len R) := eSame.set (by omega)
theorem rInc_5 : rInc R 0 5 = R 0 5 := eRs_n (by decide)
theorem rInc_same : eSame R (rInc R) := eSame.set (by omega)
theorem rLet_ok (h : rLet T len R 0 5 = 0) : R 0 5 = 0 ∧ (∃ a, a < 20 ∧ rLetV T len R = nI a) ∧ eSame R (rLet T len R) := by
  unfold rLet at h ⊢
  rw [rInc_5] at h
  by_cases c : rSk T len R 0 7 < len
  · rw [if_pos c] at h ⊢
    by_cases c2 : cIsThing (rLetV T len R) = 0
    · rw [if_pos c2] at h
      exact absurd h (rTell_nz (by decide))
    · rw [if_neg c2] at h ⊢
      rcases thg_of (rLetV T len R) with e | e
      · exact absurd e c2
      · exact ⟨rSk_5.symm.trans h, e, rSk_same.trans rInc_same⟩
  · rw [if_neg c] at h
    exact absurd h (rTell_nz (by decide))
theorem rSign_ok {s : Int32} (h : rSign T len s R 0 5 = 0) : R 0 5 = 0 ∧ eSame R (rSign T len s R) := by
  unfold rSign at h ⊢
  rw [rInc_5] at h
  by_cases c : rSk T len R 0 7 < len
  · rw [if_pos c] at h ⊢
    by_cases c2 : cAt 60 T (rSk T len R 0 7) = s
    · rw [if_pos c2] at h ⊢
      exact ⟨rSk_5.symm.trans h, rSk_same.trans rInc_same⟩
    · rw [if_neg c2] at h
      exact absurd h (rTell_nz (by decide))
  · rw [if_neg c] at h
    exact absurd h (rTell_nz (by decide))
theorem rN2_5 : (rN2 T len R).2 0 5 = R 0 5 ∧ eSame R (rN2 T len R).2 := by
  unfold rN2
  split
  · exact ⟨rInc_5, rInc_same⟩
  · exact ⟨rInc_5.trans rInc_5, rInc_same.trans rInc_same⟩
theorem rNum_ok (h : rNum T len R 0 5 = 0) : R 0 5 = 0 ∧ (∃ n, 1 ≤ n ∧ n ≤ 20 ∧ rNumV T len R = nI n) ∧ eSame R (rNum T len R) := by
  unfold rNum rNumV at *
  by_cases c : rDig T len (rSk T len R 0 7) = 0
  · rw [if_pos c] at h ⊢
    rw [if_pos c]
    exact ⟨rSk_5.symm.trans h, ⟨1, by decide, by decide, rfl⟩, rSk_same⟩
  · rw [if_neg c] at h ⊢
    rw [if_neg c]
    have h5 := rSk_5 (T := T) (len := len) (R := R)
    have hs := rSk_same (T := T) (len := len) (R := R)
    generalize rSk T len R = A at h h5 hs ⊢
    obtain ⟨g5, gs⟩ := rN2_5 (T := T) (len := len) (R := A)
    unfold rN3 at h ⊢
    by_cases c2 : rDig T len ((rN2 T len A).2 0 7) = 0
    · rw [if_pos c2] at h ⊢
      by_cases c3 : (rN2 T len A).1 < 1
      · rw [if_pos c3] at h
        exact absurd h (rTell_nz (by decide))
      · rw [if_neg c3] at h ⊢
        by_cases c4 : (rN2 T len A).1 ≤ 20
        · rw [if_pos c4] at h ⊢
          refine ⟨(h5.symm.trans g5.symm).trans h, ?_, hs.trans gs⟩
          have h0 : ¬ (rN2 T len A).1 < 0 := fun q => c3 (Int32.lt_of_lt_of_le q (by decide))
          obtain ⟨n, hn, e⟩ := nI_of2 (M := 20) (n := 20) (by decide) h0 c4
          refine ⟨n, ?_, hn, e⟩
          rcases Nat.eq_zero_or_pos n with z | z
          · rw [e, z] at c3
            exact absurd (by decide) c3
          · exact z
        · rw [if_neg c4] at h
          exact absurd h (rTell_nz (by decide))
    · rw [if_neg c2] at h
      exact absurd h (rTell_nz (by decide))
/-- a recipe of c ingredients, as far as it is read -/
def rDt (c : Nat) (R : Nat → Nat → Int32) : Prop := R 0 5 = 0 ∧ R 0 4 = nI c ∧ c ≤ 5 ∧ (∃ a, a < 20 ∧ R 0 2 = nI a) ∧ (∃ y, 1 ≤ y ∧ y ≤ 20 ∧ R 0 3 = nI y) ∧ ∀ k, k < c → ∃ x n, x < 20 ∧ 1 ≤ n ∧ n ≤ 20 ∧ R 1 k = nI x ∧ R 2 k = nI n
theorem rDt.same {c : Nat} {R R' : Nat → Nat → Int32} (h : rDt c R) (s : eSame R R') (h5 : R' 0 5 = 0) : rDt c R' := by
  obtain ⟨-, h2, h3, h4, h6, h7⟩ := h
  refine ⟨h5, (s.1 4 (by decide) (by decide) (by decide)).trans h2, h3, ?_, ?_, ?_⟩
  · rw [s.1 2 (by decide) (by decide) (by decide)]
    exact h4
  · rw [s.1 3 (by decide) (by decide) (by decide)]
    exact h6
  · rw [s.2.1, s.2.2]
    exact h7
theorem rIng_ok {c : Nat} (hd : R 0 5 = 0 → rDt c R) (h : rIng T len R 0 5 = 0) : rDt (c + 1) (rIng T len R) := by
  unfold rIng at h ⊢
  by_cases c0 : rIng0 T len R 0 5 = 0
  · rw [if_pos c0] at h ⊢
    unfold rIng0 at h c0 ⊢
    obtain ⟨l5, ⟨a, ha, ea⟩, ls⟩ := rLet_ok c0
    obtain ⟨n5, ⟨n, n1, n20, en⟩, ns⟩ := rNum_ok l5
    have hD := ((hd n5).same ns l5).same ls c0
    rw [ea, en] at h ⊢
    generalize rLet T len (rNum T len R) = A at h c0 hD ⊢
    obtain ⟨-, h2, h3, h4, h6, h7⟩ := hD
    by_cases c5 : 5 ≤ A 0 4
    · rw [if_pos c5] at h
      exact absurd h (rTell_nz (by decide))
    · rw [if_neg c5] at h ⊢
      by_cases cl : rList A (nI a) = true
      · rw [if_pos cl] at h
        exact absurd h (rTell_nz (by decide))
      · rw [if_neg cl]
        have hc5 : c < 5 := by
          rcases Nat.lt_or_ge c 5 with q | q
          · exact q
          · exact absurd (by rw [h2]; exact nI_le (a := 5) q (by omega)) c5
        have e : rAdd A (nI a) (nI n) = rSet (va_up (va_up A 1 (upd (A 1) c (nI a))) 2 (upd (A 2) c (nI n))) 4 (nI (c + 1)) := by
          unfold rAdd
          rw [h2, ePut hc5 (by decide), ePut hc5 (by decide), nI_1]
        rw [e]
        refine ⟨?_, eRs_k, by omega, ?_, ?_, fun k hk => ?_⟩
        · rw [eRs_n (by decide), zup_ne (by decide), zup_ne (by decide)]
          exact c0
        · rw [eRs_n (by decide), zup_ne (by decide), zup_ne (by decide)]
          exact h4
        · rw [eRs_n (by decide), zup_ne (by decide), zup_ne (by decide)]
          exact h6
        · rw [eRs_j (by decide), eRs_j (by decide), zup_ne (by decide), zup_eq, zup_eq]
          by_cases q : k = c
          · subst q
            rw [upd_eq, upd_eq]
            exact ⟨a, n, ha, n1, n20, rfl, rfl⟩
          · rw [upd_ne q, upd_ne q]
            exact h7 k (by omega)
  · rw [if_neg c0] at h
    exact absurd h c0
theorem rRead_ok (h : rRead T len R 0 5 = 0) : ∃ c, 1 ≤ c ∧ rDt c (rRead T len R) := by
  unfold rRead at h ⊢
  have h0 : rRead0 T len R 0 5 = 0 → rDt 1 (rRead0 T len R) := by
    intro g
    unfold rRead0 at g ⊢
    refine rIng_ok (c := 0) (fun g2 => ?_) g
    obtain ⟨s5, ss⟩ := rSign_ok g2
    rw [eRs_n (by decide)] at s5
    obtain ⟨n5, ⟨n, n1, n20, en⟩, ns⟩ := rNum_ok s5
    rw [eRs_n (by decide)] at n5
    obtain ⟨l5, ⟨a, ha, ea⟩, ls⟩ := rLet_ok n5
    refine ⟨g2, ?_, by omega, ⟨a, ha, ?_⟩, ⟨n, n1, n20, ?_⟩, fun k hk => absurd hk (Nat.not_lt_zero k)⟩
    · rw [ss.1 4 (by decide) (by decide) (by decide), eRs_n (by decide), ns.1 4 (by decide) (by decide) (by decide), eRs_n (by decide), ls.1 4 (by decide) (by decide) (by decide), eRs_n (by decide), eRs_n (by decide), eRs_k]
      rfl
    · rw [ss.1 2 (by decide) (by decide) (by decide), eRs_n (by decide), ns.1 2 (by decide) (by decide) (by decide), eRs_k]
      exact ea
    · rw [ss.1 3 (by decide) (by decide) (by decide), eRs_k]
      exact en
  have hl : ∀ n, (it (rStep T len) n (rRead0 T len R, false)).1 0 5 = 0 → ∃ c, 1 ≤ c ∧ rDt c (it (rStep T len) n (rRead0 T len R, false)).1 := by
    intro n
    induction n with
    | zero => exact fun g => ⟨1, Nat.le_refl _, h0 g⟩
    | succ n ih =>
      rw [it_s]
      generalize it (rStep T len) n (rRead0 T len R, false) = s at ih ⊢
      unfold rStep
      by_cases c1 : s.2 = true
      · rw [if_pos c1]
        exact ih
      · rw [if_neg c1]
        by_cases c2 : rMoreV T len s.1 = 0
        · rw [if_pos c2]
          intro g
          have g5 : s.1 0 5 = 0 := (rSk_5 (T := T) (len := len)).symm.trans g
          obtain ⟨c, hc, hd⟩ := ih g5
          exact ⟨c, hc, hd.same rSk_same g⟩
        · rw [if_neg c2]
          intro g
          have hg : rSign T len 43 (rSk T len s.1) 0 5 = 0 → s.1 0 5 = 0 := fun q => (rSk_5 (T := T) (len := len)).symm.trans (rSign_ok q).1
          by_cases z : rSign T len 43 (rSk T len s.1) 0 5 = 0
          · obtain ⟨c, hc, hd⟩ := ih (hg z)
            refine ⟨c + 1, by omega, rIng_ok (fun q => ?_) g⟩
            exact (hd.same rSk_same (rSign_ok q).1).same (rSign_ok q).2 q
          · exact ⟨0 + 1, by omega, rIng_ok (c := 0) (fun q => absurd q z) g⟩
  exact hl 5 h
end RD
