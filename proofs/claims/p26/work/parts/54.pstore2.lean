/-! ===== 54.pstore2: bring, wish, make, keep, back, undo, and what would be ===== -/
theorem wBegin_e {W S S' : pM} (h : zEq 7 S S') (g : Int32) : wBegin W S g = wBegin W S' g := by
  unfold wBegin
  rw [zput_ext (sCopy_j (S := zsub W 1) (S' := zsub W 1) (fun _ _ => rfl) h)]
theorem bgStep_e {A B S S' : pM} (h : zEq 9 A B) (hS : zEq 7 S S') (t n : Int32) : bgStep A S t n = bgStep B S' t n := by
  funext i s
  have hr : ∀ W, bgRec W S i = bgRec W S' i := fun W => by
    unfold bgRec
    rw [wBegin_e hS]
  unfold bgStep
  rw [hr, wFul_e h]
theorem hvIt_e {A B S S' : pM} (h : zEq 9 A B) (hS : zEq 7 S S') (t : Int32) : ∀ m W, hvIt A S t m W = hvIt B S' t m W := by
  intro m
  induction m with
  | zero => exact fun _ => rfl
  | succ m ih =>
    intro W
    unfold hvIt
    rw [wBegin_e hS, wRun_e h, ih]
/-- nothing but the works has changed -/
def pQ (χ : Nat) (F F' : pM) : Prop := ∀ i, (i < χ + 26 ∨ χ + 34 ≤ i) → F' i = F i
theorem pQ.refl {χ : Nat} {F : pM} : pQ χ F F := fun _ _ => rfl
theorem pQ.trans {χ : Nat} {F G H : pM} (h : pQ χ F G) (g : pQ χ G H) : pQ χ F H := fun i hi => (g i hi).trans (h i hi)
theorem pQ.put {χ : Nat} {F W : pM} : pQ χ F (zput F (χ + 26) 8 W) := fun i hi => zput_ne (by omega)
theorem pVw.q {F F' : pM} {P : Nat → Nat → Option Nat} {χ : Nat} {v : pV} (h : pVw F P χ v) (q : pQ χ F F') : pVw F' P χ v := by
  obtain ⟨h1, h2, h3, h4, h5, h6, h7⟩ := h
  refine ⟨fun j hj => ?_, fun j hj => ?_, ?_, ?_, fun j hj => ?_, fun j hj => ?_, fun p hp => (h7 p hp).keep hp (fun j a b => q _ (by omega)) rfl⟩
  · rw [← h1 j hj]
    exact q _ (by omega)
  · rw [← h2 j hj]
    exact q _ (by omega)
  · rw [q _ (by omega)]
    exact h3
  · rw [q _ (by omega)]
    exact h4
  · rw [← h5 j hj]
    exact q _ (by omega)
  · rw [← h6 j hj]
    exact q _ (by omega)
theorem pLI.q {sh : zSh} {F F' : pM} {P : Nat → Nat → Option Nat} {χ : Nat} {v : pV} (h : pLI sh F P χ v) (q : pQ χ F F') : pLI sh F' P χ v := ⟨h.1, h.2.1.of (q _ (by omega)), h.2.2.q q⟩
theorem pFr.q {sh : zSh} {F F' : pM} {P : Nat → Nat → Option Nat} {χ : Nat} (q : pQ χ F F') : pFr χ sh F P sh F' P := fun i hi => ⟨rfl, q i (by omega), rfl⟩
theorem pTop.q {F F' : pM} {P : Nat → Nat → Option Nat} {χ : Nat} {B S : pM} (h : pTop F P χ B S) (q : pQ χ F F') : pTop F' P χ B S := h.to (fun j hj => q _ (by omega)) rfl
theorem pTop.of {F : pM} {P : Nat → Nat → Option Nat} {χ : Nat} {B S B' S' : pM} (h : pTop F P χ B S) (hB : eBeq B' B) (hS : eSeq S' S) : pTop F P χ B' S' := by
  obtain ⟨o, s, a, b, c, d, e, f, g1, g2⟩ := h
  exact ⟨o, s, a, b, c, d, e, f, hB.trans g1, hS.trans g2⟩
theorem wsh_of (n : Int32) : cIsWished n = 0 ∨ ∃ k, 1 ≤ k ∧ k ≤ 999 ∧ n = nI k := by
  by_cases h : cIsWished n = 0
  · exact Or.inl h
  · refine Or.inr ?_
    unfold cIsWished at h
    by_cases h1 : n < 1
    · exact absurd (if_pos h1) h
    · rw [if_neg h1] at h
      by_cases h2 : 999 < n
      · exact absurd (if_pos h2) h
      · have h0 : ¬ n < 0 := fun q => h1 (Int32.lt_of_lt_of_le q (by decide))
        obtain ⟨k, hk, e⟩ := nI_of2 (M := 999) (n := 999) (by decide) h0 (Int32.not_lt.mp h2)
        refine ⟨k, ?_, hk, e⟩
        rcases Nat.eq_zero_or_pos k with z | z
        · rw [e, z] at h1
          exact absurd (by decide) h1
        · exact z
theorem wsh {k : Nat} (h1 : 1 ≤ k) (h : k ≤ 999) : ¬ cIsWished (nI k) = 0 := by
  unfold cIsWished
  rw [if_neg (show ¬ nI k < 1 from nI_nlt (b := 1) h1 (by omega)), if_neg (show ¬ (999 : Int32) < nI k from nI_nlt (a := 999) h (by decide))]
  decide
section PST2
variable {v : pV} {N : Nat}
/-- out of their rows nothing changes -/
def pOut (S S1 : pM) : Prop := zEq 7 (sCopy S1 S) S
theorem pOut.of {S S1 : pM} (h : ∀ j t, 1 ≤ j → j ≤ 6 → 20 ≤ t → S1 j t = S j t) (h0 : ∀ k, k ≠ 6 → S1 0 k = S 0 k) : pOut S S1 := by
  have hr : ∀ j, 1 ≤ j → j ≤ 6 → cCopy 20 (S j) (S1 j) = S j := by
    intro j h1 h6
    funext t
    unfold cCopy
    split
    · rfl
    · exact h j t h1 h6 (by omega)
  intro j hj
  have : j = 0 ∨ j = 1 ∨ j = 2 ∨ j = 3 ∨ j = 4 ∨ j = 5 ∨ j = 6 := by omega
  unfold sCopy
  rcases this with rfl | rfl | rfl | rfl | rfl | rfl | rfl
  · rw [zup_eq]
    funext k
    by_cases e : k = 6
    · subst e
      rw [upd_eq]
    · rw [upd_ne e]
      exact h0 k e
  all_goals simp (disch := omega) only [zup_ne, zup_eq]
  · exact hr 1 (by decide) (by decide)
  · exact hr 2 (by decide) (by decide)
  · exact hr 3 (by decide) (by decide)
  · exact hr 4 (by decide) (by decide)
  · exact hr 5 (by decide) (by decide)
  · exact hr 6 (by decide) (by decide)
theorem cAdd_out {f : Nat → Int32} {i d : Int32} {t : Nat} (ht : 20 ≤ t) : cAdd 20 f i d t = f t := by
  rcases pIx (n := 20) (by decide) i with ⟨-, a, -⟩ | ⟨j, hj, rfl⟩
  · rw [a]
  · rw [eAdd hj (by decide), upd_ne (by omega)]
theorem pOut.br {S : pM} {t d : Int32} : pOut S (pBr S t d) := by
  refine pOut.of (fun j u h1 h6 hu => ?_) (fun k hk => ?_)
  · unfold pBr
    by_cases e6 : j = 6
    · subst e6
      rw [zup_eq]
      exact cAdd_out hu
    · rw [zup_ne e6]
      by_cases e1 : j = 1
      · subst e1
        rw [zup_eq]
        exact cAdd_out hu
      · rw [zup_ne e1]
  · unfold pBr
    rw [zup_ne (by decide), zup_ne (by decide)]
theorem pOut.acc {S V : pM} : pOut S (sCopy S V) := by
  refine pOut.of (fun j u h1 h6 hu => ?_) (fun k hk => ?_)
  · have : j = 1 ∨ j = 2 ∨ j = 3 ∨ j = 4 ∨ j = 5 ∨ j = 6 := by omega
    unfold sCopy
    rcases this with rfl | rfl | rfl | rfl | rfl | rfl
    all_goals simp (disch := omega) only [zup_ne, zup_eq, cCopy, if_neg (show ¬ u < 20 by omega)]
  · unfold sCopy
    rw [zup_eq, upd_ne hk]
theorem bCopy_c {X B B' : pM} (e : eBeq B B') : zEq 9 (bCopy X B') (bCopy X B) := by
  have hr : ∀ j n, 1 ≤ j → j ≤ 8 → bN j = n → cCopy n (B' j) (X j) = cCopy n (B j) (X j) := by
    intro j n h1 h8 hn
    funext t
    unfold cCopy
    split
    · exact e j t h1 h8 (by omega)
    · rfl
  intro j hj
  have : j = 0 ∨ j = 1 ∨ j = 2 ∨ j = 3 ∨ j = 4 ∨ j = 5 ∨ j = 6 ∨ j = 7 ∨ j = 8 := by omega
  unfold bCopy
  rcases this with rfl | rfl | rfl | rfl | rfl | rfl | rfl | rfl | rfl
  all_goals simp (disch := omega) only [zup_ne, zup_eq]
  · exact hr 1 20 (by decide) (by decide) rfl
  · exact hr 2 20 (by decide) (by decide) rfl
  · exact hr 3 100 (by decide) (by decide) rfl
  · exact hr 4 100 (by decide) (by decide) rfl
  · exact hr 5 20 (by decide) (by decide) rfl
  · exact hr 6 60 (by decide) (by decide) rfl
  · exact hr 7 20 (by decide) (by decide) rfl
  · exact hr 8 20 (by decide) (by decide) rfl
theorem bCopy_id {B : pM} : zEq 9 (bCopy B B) B := by
  have hr : ∀ n (f : Nat → Int32), cCopy n f f = f := fun n f => by
    funext t
    unfold cCopy
    split <;> rfl
  intro j hj
  unfold bCopy
  rw [hr, hr, hr, hr, hr, hr, hr, hr]
  have : j = 0 ∨ j = 1 ∨ j = 2 ∨ j = 3 ∨ j = 4 ∨ j = 5 ∨ j = 6 ∨ j = 7 ∨ j = 8 := by omega
  rcases this with rfl | rfl | rfl | rfl | rfl | rfl | rfl | rfl | rfl
  all_goals simp (disch := omega) only [zup_ne, zup_eq]
theorem sCopy_c {X S S' : pM} (e : eSeq S S') : zEq 7 (sCopy X S') (sCopy X S) := by
  have hr : ∀ j, 1 ≤ j → j ≤ 6 → cCopy 20 (S' j) (X j) = cCopy 20 (S j) (X j) := by
    intro j h1 h6
    funext t
    unfold cCopy
    split
    · exact e.1 j t h1 h6 (by assumption)
    · rfl
  intro j hj
  have : j = 0 ∨ j = 1 ∨ j = 2 ∨ j = 3 ∨ j = 4 ∨ j = 5 ∨ j = 6 := by omega
  unfold sCopy
  rcases this with rfl | rfl | rfl | rfl | rfl | rfl | rfl
  · rw [zup_eq, zup_eq, e.2]
  all_goals simp (disch := omega) only [zup_ne, zup_eq]
  · exact hr 1 (by decide) (by decide)
  · exact hr 2 (by decide) (by decide)
  · exact hr 3 (by decide) (by decide)
  · exact hr 4 (by decide) (by decide)
  · exact hr 5 (by decide) (by decide)
  · exact hr 6 (by decide) (by decide)
/-- undo, right behind a change of the stock alone -/
theorem p_undo {sh : zSh} {F : pM} {P : Nat → Nat → Option Nat} {χ : Nat} {v1 : pV} (hL : pLI sh F P χ v1) (hT : pTop F P χ (pvB v) (pvS v)) (e1 : v1.1 = v.1) (e2 : v1.2.2 = v.2.2) (ho : pOut (pvS v) (pvS v1)) :
    ∃ z F', ¬ z < 0 ∧ zMet yX6_undo wsX6_undo 6 0 0 [.ref χ] sh F P (some (.int z)) sh F' P ∧ pLI sh F' P χ v ∧ pFr χ sh F P sh F' P := by
  obtain ⟨hY, hR, hV⟩ := hL
  obtain ⟨o, s, ho8, hs, h1, f1, f2, hk, hB, hS⟩ := hT
  have hm := Nat.mod_lt (o + (s - 1)) (show 0 < 8 by decide)
  have m := c_X6_undo_o (F := F) hY ho8 hs f1 f2 h1 hk
  refine ⟨_, _, nI_pos (n := s - 1) (by omega), m, ⟨hY, ?_, ?_⟩, ?_⟩
  · refine ⟨o, s - 1, ho8, by omega, ?_, ?_⟩
    · unfold layF
      rw [zput_ne (by omega), zput_ne (by omega), zup_eq, upd_ne (by decide)]
      exact f1
    · unfold layF
      rw [zput_ne (by omega), zput_ne (by omega), zup_eq, upd_eq]
  · have e0 : pVw (va_up F (χ + 34) (upd (F (χ + 34)) 2 (nI (s - 1)))) P χ v1 := by
      rw [show va_up F (χ + 34) (upd (F (χ + 34)) 2 (nI (s - 1))) = zput F (χ + 34) 1 (va_up (zsub F (χ + 34)) 0 (upd (F (χ + 34)) 2 (nI (s - 1)))) from zup_put (j := 0) (by decide)]
      exact hV.put (Or.inl ⟨by decide, by decide⟩)
    unfold layF
    have g := (e0.bk (D := bCopy (zsub (va_up F (χ + 34) (upd (F (χ + 34)) 2 (nI (s - 1)))) (χ + 1)) (zsub (va_up F (χ + 34) (upd (F (χ + 34)) 2 (nI (s - 1)))) (χ + 59 + 17 * ((o + (s - 1)) % 8) + 1))) (B' := pvB v) (fun j hj => ?_)).sk (D := sCopy (zsub (va_up F (χ + 34) (upd (F (χ + 34)) 2 (nI (s - 1)))) (χ + 19)) (zsub (va_up F (χ + 34) (upd (F (χ + 34)) 2 (nI (s - 1)))) (χ + 59 + 17 * ((o + (s - 1)) % 8) + 10))) (S' := pvS v) (fun j hj => ?_)
    · have : ((pvB v, pvS v, v1.2.2) : pV) = v := by rw [e2]
      rw [this] at g
      exact g
    · have hx : ∀ i, i < 9 → zsub (va_up F (χ + 34) (upd (F (χ + 34)) 2 (nI (s - 1)))) (χ + 59 + 17 * ((o + (s - 1)) % 8) + 1) i = zsub F (χ + 59 + 17 * ((o + (s - 1)) % 8) + 1) i := fun i hi => by
        show va_up F _ _ (χ + 59 + 17 * ((o + (s - 1)) % 8) + 1 + i) = F _
        exact zup_ne (by omega)
      have hs : ∀ i, i < 9 → zsub (va_up F (χ + 34) (upd (F (χ + 34)) 2 (nI (s - 1)))) (χ + 1) i = pvB v i := fun i hi => by
        rw [show pvB v = pvB v1 from e1.symm]
        exact e0.1 i hi
      exact (bCopy_j hs hx j hj).trans ((bCopy_c hB j hj).trans (bCopy_id j hj))
    · have hx : ∀ i, i < 7 → zsub (va_up F (χ + 34) (upd (F (χ + 34)) 2 (nI (s - 1)))) (χ + 59 + 17 * ((o + (s - 1)) % 8) + 10) i = zsub F (χ + 59 + 17 * ((o + (s - 1)) % 8) + 10) i := fun i hi => by
        show va_up F _ _ (χ + 59 + 17 * ((o + (s - 1)) % 8) + 10 + i) = F _
        exact zup_ne (by omega)
      have h19 : ∀ i, i < 7 → zput (va_up F (χ + 34) (upd (F (χ + 34)) 2 (nI (s - 1)))) (χ + 1) 9 (bCopy (zsub (va_up F (χ + 34) (upd (F (χ + 34)) 2 (nI (s - 1)))) (χ + 1)) (zsub (va_up F (χ + 34) (upd (F (χ + 34)) 2 (nI (s - 1)))) (χ + 59 + 17 * ((o + (s - 1)) % 8) + 1))) (χ + 19 + i) = zsub (va_up F (χ + 34) (upd (F (χ + 34)) 2 (nI (s - 1)))) (χ + 19) i := fun i hi => zput_ne (by omega)
      exact (sCopy_j (fun i hi => e0.2.1 i hi) hx j hj).trans ((sCopy_c hS j hj).trans (ho j hj))
  · intro i hi
    refine ⟨rfl, ?_, rfl⟩
    unfold layF
    rw [zput_ne (by omega), zput_ne (by omega), zup_ne (by omega)]
/-- a call that changes the stock alone, as an undo behind it needs it -/
def pCallT (y : MethodName) (ws : List Cond) (h : Nat) (as : List Value) (v : pV) (z : Int32) (S1 : pM) : Prop := ∀ (sh : zSh) (F : pM) (P : Nat → Nat → Option Nat) (χ : Nat), pLI sh F P χ v →
  ∃ sh' F' P', zMet y ws h 17 497 (.ref χ :: as) sh F P (some (.int z)) sh' F' P' ∧ pLI sh' F' P' χ (v.1, S1, v.2.2) ∧ pFr χ sh F P sh' F' P' ∧ pTop F' P' χ (pvB v) (pvS v)
theorem pCallT.call {y : MethodName} {ws : List Cond} {h : Nat} {as : List Value} {z : Int32} {S1 : pM} (m : pCallT y ws h as v z S1) : pCall y ws h as v z (v.1, S1, v.2.2) := fun sh F P χ hL => by
  obtain ⟨sh', F', P', a, b, c, -⟩ := m sh F P χ hL
  exact ⟨17, 497, sh', F', P', Nat.le_refl _, Nat.le_refl _, a, b, c⟩
theorem zup_put2 {G : pM} {χ : Nat} {x y : Nat → Int32} : va_up (va_up G (χ + 20) x) (χ + 25) y = zput G (χ + 19) 7 (va_up (va_up (zsub G (χ + 19)) 1 x) 6 y) := by
  rw [zput_up (by decide), zput_up (by decide), zput_id]
theorem p_bringT {t a : Int32} (h : xBring t a (cAt 20 (pvS v 1) t) = 0) : pCallT yX6_bring wsX6_bring 6 [.int t, .int a] v (cMx0 (cAt 20 (pvS v 1) t + a)) (pBr (pvS v) t (cMx0 (cAt 20 (pvS v 1) t + a) - cAt 20 (pvS v 1) t)) := by
  intro sh F P χ hL
  obtain ⟨hY, hR, hV⟩ := hL
  obtain ⟨o, s, ho, hs, h1, h2⟩ := hR.get
  have e20 : F (χ + 20) = pvS v 1 := hV.2.1 1 (by decide)
  have e25 : F (χ + 25) = pvS v 6 := hV.2.1 6 (by decide)
  have m := c_X6_bring_o (F := F) (a := a) hY ho hs h1 h2 (by rw [e20]; exact h)
  rw [e20, e25, zup_put2] at m
  refine ⟨_, _, _, m, ⟨hY.trm, (tF_rg ho hs h1 h2).of (zput_ne (by omega)), (hV.rem).sk ?_⟩, pFr.rem.trans (pFr.put (by decide)), ?_⟩
  · unfold pBr
    exact zEq.up (zEq.up hV.rem.2.1 rfl) rfl
  · exact ((pTop.rem (P := P) hY ho hs h1 h2).to (fun j hj => zput_ne (by omega)) rfl).of (eBeq.zeq fun j hj => (hV.1 j hj).symm) (eSeq.of fun j hj => hV.2.1 j (by omega))
theorem p_bring (h : pInv v N) (t a : Int32) : ∃ z v', pCall yX6_bring wsX6_bring 6 [.int t, .int a] v z v' ∧ pInv v' N := by
  by_cases hx : xBring t a (cAt 20 (pvS v 1) t) = 0
  · refine ⟨_, _, (p_bringT hx).call, h.1, ?_, h.2.2⟩
    unfold xBring at hx
    rcases thg_of t with ht | ⟨i, hi, rfl⟩
    · rw [if_pos ht] at hx
      exact absurd hx (by decide)
    · rw [if_neg (thg hi)] at hx
      by_cases c1 : a < -9999
      · rw [if_pos c1] at hx
        exact absurd hx (by decide)
      · rw [if_neg c1] at hx
        by_cases c2 : a ≤ 9999
        · rw [if_pos c2] at hx
          by_cases c3 : cMx0 (cAt 20 (pvS v 1) (nI i) + a) ≤ 99999
          · have h0 : ¬ cMx0 (cAt 20 (pvS v 1) (nI i) + a) < 0 := by
              unfold cMx0
              split
              · decide
              · assumption
            obtain ⟨b, hb, e⟩ := nI_of2 (M := 99999) (n := 99999) (by decide) h0 c3
            refine sOk.bring h.2.1 hi hb ?_
            rw [eAt hi (by decide)] at e ⊢
            rw [← e]
            generalize cMx0 (pvS v 1 i + a) = x
            grind
          · rw [if_neg c3] at hx
            exact absurd hx (by decide)
        · rw [if_neg c2] at hx
          exact absurd hx (by decide)
  · refine ⟨xBring t a (cAt 20 (pvS v 1) t), v, pCall.same fun sh F P χ hL => ?_, h⟩
    have e20 : F (χ + 20) = pvS v 1 := hL.2.2.2.1 1 (by decide)
    have m := c_X6_bring_e (F := F) (t := t) (a := a) hL.1 (by rw [e20]; exact hx)
    rw [e20] at m
    exact m
theorem p_wishT {t n : Nat} (ht : t < 20) (h1 : 1 ≤ n) (hn : n ≤ 999) (hw : pW (pvB v) (pvS v) (nI t) (nI n) 0 2 = 0) : pCallT yX6_wish wsX6_wish 42 [.int (nI t), .int (nI n)] v (pW (pvB v) (pvS v) (nI t) (nI n) 0 4) (sCopy (pvS v) (zsub (pW (pvB v) (pvS v) (nI t) (nI n)) 1)) := by
  intro sh F P χ hL
  obtain ⟨hY, hR, hV⟩ := hL
  obtain ⟨o, s, ho, hs, f1, f2⟩ := hR.get
  have q := tFul_q hV (nI t) (nI n)
  have m := c_X6_wish_o (F := F) hY ho hs f1 f2 (thg ht) (wsh h1 hn) ((q.1 2 (by decide) (by decide)).trans hw)
  rw [q.1 4 (by decide) (by decide)] at m
  refine ⟨_, _, _, m, ⟨hY.trm, tAcc_rg ho hs f1 f2, tAcc_v hV q⟩, tAcc_fr, ?_⟩
  have hT := pTop.rem (F := zput F (χ + 26) 8 (tFul F χ (nI t) (nI n))) (P := P) hY ho hs (by rw [zput_ne (by omega)]; exact f1) (by rw [zput_ne (by omega)]; exact f2)
  unfold tAcc
  refine (hT.to (fun j hj => zput_ne (by omega)) rfl).of (eBeq.zeq fun j hj => ?_) (eSeq.of fun j hj => ?_)
  · show _ = zput F (χ + 26) 8 _ (χ + 1 + j)
    rw [zput_ne (by omega)]
    exact (hV.1 j hj).symm
  · show zput F (χ + 26) 8 _ (χ + 19 + j) = _
    rw [zput_ne (by omega)]
    exact hV.2.1 j (by omega)
theorem p_wish (h : pInv v N) (hN : N ≤ 100000000) (t n : Int32) : ∃ z v', pCall yX6_wish wsX6_wish 42 [.int t, .int n] v z v' ∧ pInv v' (N + 70000) := by
  rcases thg_of t with ht | ⟨a, ha, rfl⟩
  · exact ⟨-1, v, pCall.same fun sh F P χ hL => c_X6_wish_b hL.1 (Or.inl ht), h.more (by omega)⟩
  rcases wsh_of n with hn | ⟨k, k1, hk, rfl⟩
  · exact ⟨-1, v, pCall.same fun sh F P χ hL => c_X6_wish_b hL.1 (Or.inr hn), h.more (by omega)⟩
  by_cases hw : pW (pvB v) (pvS v) (nI a) (nI k) 0 2 = 0
  · refine ⟨_, _, (p_wishT ha k1 hk hw).call, h.1, ?_, fun p hp X e => ⟨(h.2.2 p hp X e).1, (h.2.2 p hp X e).2.more (by omega)⟩⟩
    obtain ⟨w, hb⟩ := h.1
    rcases pFul (W := zZero) hb.1 hb.2.2.1 h.2.1 ha (show k ≤ 1000 by omega) with hf | ⟨bt, g, M, M0, a0, a1, g1, g2, g3, g4, g5, g6, -⟩
    · exact absurd hw hf
    · exact h.2.1.acc g3 hN g4 g5 g6 (wSm.ful _ _)
  · refine ⟨-3, v, fun sh F P χ hL => ?_, h.more (by omega)⟩
    obtain ⟨hY, hR, hV⟩ := id hL
    have q := tFul_q hV (nI a) (nI k)
    have m := c_X6_wish_f (F := F) hY (thg ha) (wsh k1 hk) (by rw [q.1 2 (by decide) (by decide)]; exact hw)
    exact ⟨0, 0, _, _, _, Nat.zero_le _, Nat.zero_le _, m, hL.q pQ.put, pFr.q pQ.put⟩
theorem p_make (h : pInv v N) (hN : N ≤ 100000000) (t n : Int32) : ∃ z v', pCall yX6_make wsX6_make 42 [.int t, .int n] v z v' ∧ pInv v' (N + 70000) := by
  rcases thg_of t with ht | ⟨a, ha, rfl⟩
  · exact ⟨-1, v, pCall.same fun sh F P χ hL => c_X6_make_b hL.1 (Or.inl ht), h.more (by omega)⟩
  by_cases n1 : n < 1
  · exact ⟨-1, v, pCall.same fun sh F P χ hL => c_X6_make_b hL.1 (Or.inr (Or.inl n1)), h.more (by omega)⟩
  by_cases n2 : 99 < n
  · exact ⟨-1, v, pCall.same fun sh F P χ hL => c_X6_make_b hL.1 (Or.inr (Or.inr n2)), h.more (by omega)⟩
  have n2 := Int32.not_lt.mp n2
  by_cases hm : bMade (pvB v) (nI a) = 0
  · exact ⟨-2, v, pCall.same fun sh F P χ hL => c_X6_make_n hL.1 (thg ha) n1 n2 (by rw [bMade_e hL.2.2.1]; exact hm), h.more (by omega)⟩
  have n0 : ¬ n < 0 := fun q => n1 (Int32.lt_of_lt_of_le q (by decide))
  obtain ⟨k, hk, rfl⟩ := nI_of2 (M := 99) (n := 99) (by decide) n0 n2
  obtain ⟨w, hb⟩ := h.1
  have hy : eWy w a ≠ 0 := fun e => hm (by rw [hb.1.made ha, if_pos e])
  by_cases hw : pRn (pvB v) (pvS v) (nI a) (nI k) 0 2 = 0
  · refine ⟨pRn (pvB v) (pvS v) (nI a) (nI k) 0 4, (v.1, sCopy (pvS v) (zsub (pRn (pvB v) (pvS v) (nI a) (nI k)) 1), v.2.2), fun sh F P χ hL => ?_, h.1, ?_, fun p hp X e => ⟨(h.2.2 p hp X e).1, (h.2.2 p hp X e).2.more (by omega)⟩⟩
    · obtain ⟨hY, hR, hV⟩ := hL
      obtain ⟨o, s, ho, hs, f1, f2⟩ := hR.get
      have q := tRun_q hV (nI a) (nI k)
      have m := c_X6_make_o (F := F) hY ho hs f1 f2 (thg ha) n1 n2 (by rw [bMade_e hV.1]; exact hm) ((q.1 2 (by decide) (by decide)).trans hw)
      rw [q.1 4 (by decide) (by decide)] at m
      exact ⟨17, 497, _, _, _, Nat.le_refl _, Nat.le_refl _, m, ⟨hY.trm, tAcc_rg ho hs f1 f2, tAcc_v hV q⟩, tAcc_fr⟩
    · rcases pRun (W := zZero) hb.1 hb.2.2.1 h.2.1 ha hy (show k ≤ 1000000 by omega) with hf | ⟨bt, g, M, M0, a0, a1, g1, g2, g3, g4, g5, g6, -⟩
      · exact absurd hw hf
      · exact h.2.1.acc g3 hN g4 g5 g6 (wSm.run _ _ _)
  · refine ⟨-3, v, fun sh F P χ hL => ?_, h.more (by omega)⟩
    obtain ⟨hY, hR, hV⟩ := id hL
    have q := tRun_q hV (nI a) (nI k)
    have m := c_X6_make_f (F := F) hY (thg ha) n1 n2 (by rw [bMade_e hV.1]; exact hm) (by rw [q.1 2 (by decide) (by decide)]; exact hw)
    exact ⟨0, 0, _, _, _, Nat.zero_le _, Nat.zero_le _, m, hL.q pQ.put, pFr.q pQ.put⟩
end PST2
