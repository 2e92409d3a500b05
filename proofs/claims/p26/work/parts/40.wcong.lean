/-! ===== 40.wcong: a making side by side with another ===== -/
theorem pIx {n : Nat} (hn : n < 2 ^ 31) (i : Int32) : ((∀ f : Nat → Int32, cAt n f i = 0) ∧ (∀ (f : Nat → Int32) (v : Int32), cAdd n f i v = f) ∧ ∀ (f : Nat → Int32) (v : Int32), cPut n f i v = f) ∨ ∃ j, j < n ∧ i = nI j := by
  rcases pk_ix i hn with q | q | ⟨j, hj, rfl⟩
  · exact Or.inl ⟨fun f => by unfold cAt; rw [if_pos q], fun f v => by unfold cAdd; rw [if_pos q], fun f v => by unfold cPut; rw [if_pos q]⟩
  · by_cases h : i < 0
    · exact Or.inl ⟨fun f => by unfold cAt; rw [if_pos h], fun f v => by unfold cAdd; rw [if_pos h], fun f v => by unfold cPut; rw [if_pos h]⟩
    · exact Or.inl ⟨fun f => by unfold cAt; rw [if_neg h, if_pos q], fun f v => by unfold cAdd; rw [if_neg h, if_pos q], fun f v => by unfold cPut; rw [if_neg h, if_pos q]⟩
  · exact Or.inr ⟨j, hj, rfl⟩
theorem cAt_q {n : Nat} (hn : n < 2 ^ 31) {f g : Nat → Int32} (h : ∀ t, t < n → g t = f t) (i : Int32) : cAt n g i = cAt n f i := by
  rcases pIx hn i with ⟨a, -⟩ | ⟨j, hj, rfl⟩
  · rw [a, a]
  · rw [eAt hj hn, eAt hj hn, h j hj]
theorem cAdd_q {n : Nat} (hn : n < 2 ^ 31) {f g : Nat → Int32} (h : ∀ t, t < n → g t = f t) (i v : Int32) : ∀ t, t < n → cAdd n g i v t = cAdd n f i v t := by
  intro t ht
  rcases pIx hn i with ⟨-, a, -⟩ | ⟨j, hj, rfl⟩
  · rw [a, a, h t ht]
  · rw [eAdd hj hn, eAdd hj hn]
    by_cases e : t = j
    · subst e
      rw [upd_eq, upd_eq, h t ht]
    · rw [upd_ne e, upd_ne e, h t ht]
/-- a run and another, if they begin alike, end alike -/
theorem wStr {B : Nat → Nat → Int32} {R : (Nat → Nat → Int32) → (Nat → Nat → Int32) → Prop} (hz : ∀ V V', R V V' → V' 0 2 = V 0 2 ∧ V' 0 3 = V 0 3 ∧ ∀ t, t < 20 → V' 2 t = V 2 t)
    (hu : ∀ V V' t n, R V V' → R (wUse B V t n) (wUse B V' t n)) (hc : ∀ V V' t n, R V V' → R (wCol V t n) (wCol V' t n)) (hb : ∀ V V' c, R V V' → R (wBat V c) (wBat V' c)) (hf : ∀ V V', R V V' → R (wFail V) (wFail V'))
    (hd : ∀ V V' t c, R V V' → R (wDone B t c V) (wDone B t c V')) : ∀ f t c V V', R V V' → R (wRun B f t c V) (wRun B f t c V') := by
  have hn : ∀ V V' t n, R V V' → wN V' t n = wN V t n := by
    intro V V' t n h
    unfold wN
    rw [cAt_q (by decide) (hz V V' h).2.2 t]
  have hs : ∀ V V' t n c, R V V' → (it (wSubStep B t) c (n - wN V' t n, wUse B V' t n)).1 = (it (wSubStep B t) c (n - wN V t n, wUse B V t n)).1 ∧ R (it (wSubStep B t) c (n - wN V t n, wUse B V t n)).2 (it (wSubStep B t) c (n - wN V' t n, wUse B V' t n)).2 := by
    intro V V' t n c h
    induction c with
    | zero =>
      refine ⟨?_, hu _ _ _ _ h⟩
      show n - wN V' t n = n - wN V t n
      rw [hn V V' t n h]
    | succ c ih =>
      rw [it_s, it_s]
      generalize it (wSubStep B t) c (n - wN V t n, wUse B V t n) = s at ih ⊢
      generalize it (wSubStep B t) c (n - wN V' t n, wUse B V' t n) = s' at ih ⊢
      obtain ⟨e, r⟩ := ih
      unfold wSubStep
      rw [e]
      by_cases c0 : s.1 ≤ 0
      · rw [if_pos c0, if_pos c0]
        exact ⟨e, r⟩
      · rw [if_neg c0, if_neg c0]
        refine ⟨?_, hu _ _ _ _ r⟩
        show s.1 - wN s'.2 _ s.1 = s.1 - wN s.2 _ s.1
        rw [hn _ _ _ _ r]
  intro f
  induction f with
  | zero => exact fun t c V V' h => hf _ _ (hb _ _ _ h)
  | succ f ih =>
    have hp : ∀ t m V V', R V V' → R (wProv (wRun B f) B t m V) (wProv (wRun B f) B t m V') := by
      intro t m V V' h
      unfold wProv
      split
      · exact hc _ _ _ _ h
      · exact ih _ _ _ _ h
    have ht : ∀ t n V V', R V V' → R (wTake (wProv (wRun B f) B) B V t n) (wTake (wProv (wRun B f) B) B V' t n) := by
      intro t n V V' h
      have h1 := hs V V' t n (bSubs B t).toNatClampNeg h
      unfold wTake wSubs
      generalize it (wSubStep B t) (bSubs B t).toNatClampNeg (n - wN V t n, wUse B V t n) = s at h1 ⊢
      generalize it (wSubStep B t) (bSubs B t).toNatClampNeg (n - wN V' t n, wUse B V' t n) = s' at h1 ⊢
      obtain ⟨e, r⟩ := h1
      rw [e, (hz _ _ r).1]
      split
      · exact r
      · split
        · exact hu _ _ _ _ (hp _ _ _ _ r)
        · exact r
    intro t c V V' h
    rw [wRun_s, wRun_s]
    refine hd _ _ _ _ ?_
    have hB := hb _ _ c h
    have h0 : R (if 500 < wBat V c 0 3 then wFail (wBat V c) else wBat V c) (if 500 < wBat V' c 0 3 then wFail (wBat V' c) else wBat V' c) := by
      rw [(hz _ _ hB).2.1]
      split
      · exact hf _ _ hB
      · exact hB
    generalize (if 500 < wBat V c 0 3 then wFail (wBat V c) else wBat V c) = U at h0 ⊢
    generalize (if 500 < wBat V' c 0 3 then wFail (wBat V' c) else wBat V' c) = U' at h0 ⊢
    generalize (bIngs B t).toNatClampNeg = k
    induction k with
    | zero => exact h0
    | succ k ihk =>
      rw [it_s, it_s]
      generalize it (wRunStep (wRun B f) B t c) k U = X at ihk ⊢
      generalize it (wRunStep (wRun B f) B t c) k U' = X' at ihk ⊢
      unfold wRunStep
      rw [(hz _ _ ihk).1]
      split
      · exact ht _ _ _ _ ihk
      · exact ihk
/-- alike, as far as a making sees -/
def eWq (m : Nat) (W W' : Nat → Nat → Int32) : Prop := (∀ k, 1 ≤ k → k ≤ 4 → W' 0 k = W 0 k) ∧ W' 1 6 = W 1 6 ∧ ∀ j t, 2 ≤ j → j ≤ m → t < 20 → W' j t = W j t
section EWQ
variable {m : Nat} {B V V' : Nat → Nat → Int32}
theorem eWq.refl : eWq m V V := ⟨fun _ _ _ => rfl, rfl, fun _ _ _ _ _ => rfl⟩
theorem eWq.trans {U : Nat → Nat → Int32} (h : eWq m V V') (g : eWq m V' U) : eWq m V U := ⟨fun k a b => (g.1 k a b).trans (h.1 k a b), g.2.1.trans h.2.1, fun j t a b c => (g.2.2 j t a b c).trans (h.2.2 j t a b c)⟩
theorem eWq.symm (h : eWq m V V') : eWq m V' V := ⟨fun k a b => (h.1 k a b).symm, h.2.1.symm, fun j t a b c => (h.2.2 j t a b c).symm⟩
theorem eWq.row (h : eWq m V V') {j : Nat} {x x' : Nat → Int32} (hj : 2 ≤ j) (hx : ∀ t, t < 20 → x' t = x t) : eWq m (va_up V j x) (va_up V' j x') := by
  refine ⟨fun k a b => ?_, ?_, fun i t a b c => ?_⟩
  · rw [zup_ne (by omega), zup_ne (by omega)]
    exact h.1 k a b
  · rw [zup_ne (by omega), zup_ne (by omega)]
    exact h.2.1
  · by_cases e : i = j
    · subst e
      rw [zup_eq, zup_eq]
      exact hx t c
    · rw [zup_ne e, zup_ne e]
      exact h.2.2 i t a b c
theorem eWq.obj (h : eWq m V V') {x x' : Nat → Int32} (hx : ∀ k, 1 ≤ k → k ≤ 4 → x' k = x k) : eWq m (va_up V 0 x) (va_up V' 0 x') := by
  refine ⟨fun k a b => ?_, ?_, fun i t a b c => ?_⟩
  · rw [zup_eq, zup_eq]
    exact hx k a b
  · rw [zup_ne (by omega), zup_ne (by omega)]
    exact h.2.1
  · rw [zup_ne (by omega), zup_ne (by omega)]
    exact h.2.2 i t a b c
theorem eUpd_q {f g : Nat → Int32} {i : Nat} {x y : Int32} (hxy : y = x) {p : Nat → Prop} (h : ∀ k, p k → g k = f k) : ∀ k, p k → upd g i y k = upd f i x k := by
  intro k hk
  by_cases e : k = i
  · subst e
    rw [upd_eq, upd_eq, hxy]
  · rw [upd_ne e, upd_ne e]
    exact h k hk
theorem eWq.fl (h : eWq m V V') {i : Nat} {x y : Int32} (hxy : y = x) : eWq m (va_up V 0 (upd (V 0) i x)) (va_up V' 0 (upd (V' 0) i y)) := by
  refine h.obj fun k a b => ?_
  by_cases e : k = i
  · subst e
    rw [upd_eq, upd_eq, hxy]
  · rw [upd_ne e, upd_ne e]
    exact h.1 k a b
theorem eWq.come (hm : 6 ≤ m) (h : eWq m V V') {j : Nat} (hj : 2 ≤ j) (hj6 : j ≤ 6) (t n : Int32) : eWq m (wCome V j t n) (wCome V' j t n) := by
  have e2 := cAdd_q (show (20 : Nat) < 2 ^ 31 by decide) (fun t ht => h.2.2 2 t (by decide) (by omega) ht) t n
  have ej := cAdd_q (show (20 : Nat) < 2 ^ 31 by decide) (fun t ht => h.2.2 j t hj (by omega) ht) t n
  unfold wCome
  rw [cAt_q (by decide) e2 t]
  split
  · exact (h.row (by decide) e2).row hj ej
  · have g := (h.row (j := 2) (by decide) e2).row hj ej
    refine g.obj fun k a b => ?_
    by_cases e : k = 2
    · subst e
      rw [upd_eq, upd_eq]
    · rw [upd_ne e, upd_ne e]
      exact h.1 k a b
theorem eWq.nn (hm : 6 ≤ m) (h : eWq m V V') (t n : Int32) : wN V' t n = wN V t n := by
  unfold wN
  rw [cAt_q (by decide) (fun t ht => h.2.2 2 t (by decide) (by omega) ht) t]
theorem eWq.use0 (hm : 6 ≤ m) (h : eWq m V V') (t n : Int32) : eWq m (wUse0 V t n) (wUse0 V' t n) := by
  unfold wUse0
  exact (h.row (by decide) (cAdd_q (by decide) (fun t ht => h.2.2 2 t (by decide) (by omega) ht) t (-n))).row (by decide) (cAdd_q (by decide) (fun t ht => h.2.2 5 t (by decide) (by omega) ht) t n)
theorem eWq.use (hm : 6 ≤ m) (h : eWq m V V') (t n : Int32) : eWq m (wUse B V t n) (wUse B V' t n) := by
  unfold wUse
  rw [h.nn hm t n]
  split
  · exact h.use0 hm t _
  · exact (h.use0 hm t _).come hm (by decide) (by decide) _ _
theorem eWq.col (hm : 6 ≤ m) (h : eWq m V V') (t n : Int32) : eWq m (wCol V t n) (wCol V' t n) := by
  unfold wCol
  refine eWq.come hm ?_ (by decide) (by decide) _ _
  have hF : eWq m (wColF V) (wColF V') := by
    unfold wColF
    rw [h.1 1 (by decide) (by decide)]
    split
    · exact h.fl rfl
    · exact h
  unfold wCol0
  exact hF.fl (by rw [hF.1 4 (by decide) (by decide)])
theorem eWq.bat (h : eWq m V V') (c : Int32) : eWq m (wBat V c) (wBat V' c) := by
  unfold wBat
  exact h.fl (by rw [h.1 3 (by decide) (by decide)])
theorem eWq.fail (h : eWq m V V') : eWq m (wFail V) (wFail V') := by
  unfold wFail
  exact h.fl rfl
theorem eWq.done (hm : 6 ≤ m) (h : eWq m V V') (t c : Int32) : eWq m (wDone B t c V) (wDone B t c V') := by
  unfold wDone
  rw [h.1 2 (by decide) (by decide)]
  split
  · have g := h.come hm (j := 4) (by decide) (by decide) t (bYield B t * c)
    refine ⟨fun k a b => ?_, ?_, fun i u a b c => ?_⟩
    · rw [zup_ne (by decide), zup_ne (by decide)]
      exact g.1 k a b
    · rw [zup_eq, zup_eq, upd_eq, upd_eq, g.2.1]
    · rw [zup_ne (by omega), zup_ne (by omega)]
      exact g.2.2 i u a b c
  · exact h
theorem eWq.run (hm : 6 ≤ m) (h : eWq m V V') (f : Nat) (t c : Int32) : eWq m (wRun B f t c V) (wRun B f t c V') :=
  wStr (R := eWq m) (fun V V' h => ⟨h.1 2 (by decide) (by decide), h.1 3 (by decide) (by decide), fun t ht => h.2.2 2 t (by decide) (by omega) ht⟩) (fun _ _ t n h => h.use hm t n) (fun _ _ t n h => h.col hm t n) (fun _ _ c h => h.bat c) (fun _ _ h => h.fail) (fun _ _ t c h => h.done hm t c) f t c V V' h
theorem eWq.ful (hm : 6 ≤ m) (h : eWq m V V') (t n : Int32) : eWq m (wFul B V t n) (wFul B V' t n) := by
  unfold wFul wProv
  rw [cAt_q (by decide) (fun t ht => h.2.2 2 t (by decide) (by omega) ht) t]
  split
  · exact h
  · split
    · exact h.col hm _ _
    · exact h.run hm _ _ _
end EWQ
/-! the same book -/
theorem wRun_e {A B : Nat → Nat → Int32} (h : zEq 9 A B) : ∀ f, wRun A f = wRun B f := by
  have hv : ∀ t, bVes A t = bVes B t := bVes_e h
  have hu : ∀ W t n, wUse A W t n = wUse B W t n := fun W t n => by unfold wUse; rw [hv]
  have hst : ∀ t, bStand A t = bStand B t := fun t => by unfold bStand; simp only [bMade_e h, bSub_e h, bSubs_e h]
  have hss : ∀ t, wSubStep A t = wSubStep B t := fun t => by funext j s; unfold wSubStep; rw [bSub_e h, hu]
  intro f
  induction f with
  | zero => rfl
  | succ f ih =>
    have hp : wProv (wRun A f) A = wProv (wRun B f) B := by
      funext t m W
      unfold wProv
      rw [bMade_e h, bYield_e h, ih]
    have ht : ∀ W t n, wTake (wProv (wRun A f) A) A W t n = wTake (wProv (wRun B f) B) B W t n := by
      intro W t n
      have hsb : wSubs A W t n = wSubs B W t n := by
        unfold wSubs
        rw [bSubs_e h, hss, hu]
      unfold wTake
      rw [hsb, hst, hp, hu]
    have hr : ∀ t c, wRunStep (wRun A f) A t c = wRunStep (wRun B f) B t c := by
      intro t c
      funext k W
      unfold wRunStep
      rw [ht, bIng_e h, bAmt_e h]
    have hd : ∀ t c W, wDone A t c W = wDone B t c W := fun t c W => by unfold wDone; rw [bYield_e h]
    funext t c W
    rw [wRun_s, wRun_s, bIngs_e h, hr, hd]
theorem wFul_e {A B : Nat → Nat → Int32} (h : zEq 9 A B) (W : Nat → Nat → Int32) (t n : Int32) : wFul A W t n = wFul B W t n := by
  unfold wFul wProv
  rw [wRun_e h, bMade_e h, bYield_e h]
/-- the works, begun on the same stock, are alike -/
theorem eWq.begin {W W' S S' : Nat → Nat → Int32} (h : zEq 7 S S') (g : Int32) : eWq 7 (wBegin W S g) (wBegin W' S' g) := by
  have hr : ∀ j t, 1 ≤ j → j ≤ 6 → t < 20 → sCopy (zsub W' 1) S' j t = S' j t ∧ sCopy (zsub W 1) S j t = S j t := by
    intro j t h1 h6 ht
    have : j = 1 ∨ j = 2 ∨ j = 3 ∨ j = 4 ∨ j = 5 ∨ j = 6 := by omega
    unfold sCopy
    rcases this with rfl | rfl | rfl | rfl | rfl | rfl
    all_goals simp (disch := omega) only [zup_ne, zup_eq, upd_ne, upd_eq, cCopy, if_pos ht, and_self]
  have h0 : sCopy (zsub W' 1) S' 0 6 = S' 0 6 ∧ sCopy (zsub W 1) S 0 6 = S 0 6 := by
    unfold sCopy
    simp (disch := omega) only [zup_ne, zup_eq, upd_ne, upd_eq, and_self]
  unfold wBegin
  refine ⟨fun k a b => ?_, ?_, fun j t a b c => ?_⟩
  · rw [zup_eq, zup_eq]
    have : k = 1 ∨ k = 2 ∨ k = 3 ∨ k = 4 := by omega
    rcases this with rfl | rfl | rfl | rfl
    all_goals simp (disch := omega) only [upd_ne, upd_eq]
  · rw [zup_ne (by decide), zup_ne (by decide)]
    show zput W' (1 + 0) 7 _ (1 + 0) 6 = zput W (1 + 0) 7 _ (1 + 0) 6
    rw [zput_at (by decide), zput_at (by decide), h0.1, h0.2, h 0 (by decide)]
  · rw [zup_ne (by omega), zup_ne (by omega)]
    obtain ⟨i, rfl⟩ : ∃ i, j = 1 + i := ⟨j - 1, by omega⟩
    rw [zput_at (by omega), zput_at (by omega), (hr i t (by omega) (by omega) c).1, (hr i t (by omega) (by omega) c).2, h i (by omega)]
