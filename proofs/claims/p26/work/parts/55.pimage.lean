/-! ===== 55.pimage: keep, back, and what is asked ===== -/
theorem sOk.seq {S S' : pM} {N : Nat} (h : sOk S N) (e : eSeq S S') : sOk S' N := by
  obtain ⟨h1, h2, g, M, h3, h4, h5⟩ := h
  refine ⟨fun t ht => ?_, fun t ht => ?_, g, M, ?_, ?_, h5⟩
  · rw [e.1 1 t (by decide) (by decide) ht]
    exact h1 t ht
  · rw [e.1 1 t (by decide) (by decide) ht, e.1 2 t (by decide) (by decide) ht, e.1 3 t (by decide) (by decide) ht, e.1 4 t (by decide) (by decide) ht, e.1 5 t (by decide) (by decide) ht, e.1 6 t (by decide) (by decide) ht]
    exact h2 t ht
  · rw [← h3]
    exact eSum_congr 20 fun t ht => e.1 2 t (by decide) (by decide) ht
  · rw [← h4]
    exact eSum_congr 20 fun t ht => e.1 3 t (by decide) (by decide) ht
theorem eSeq.copy {X S : pM} : eSeq S (sCopy X S) := by
  refine ⟨fun j t x y z => ?_, ?_⟩
  · have : j = 1 ∨ j = 2 ∨ j = 3 ∨ j = 4 ∨ j = 5 ∨ j = 6 := by omega
    unfold sCopy
    rcases this with rfl | rfl | rfl | rfl | rfl | rfl
    all_goals simp (disch := omega) only [zup_ne, zup_eq, cCopy, if_pos z]
  · unfold sCopy
    rw [zup_eq, upd_eq]
def pX0 : Option (pM × pM) → pM × pM
  | none => (zsub stF 1, zsub stF 10)
  | some X => X
def pKept (v : pV) (p : Nat) : pV := (v.1, v.2.1, v.2.2.1, v.2.2.2.1, v.2.2.2.2.1, v.2.2.2.2.2.1, fun q => if q = p then some (bCopy (pX0 (pvI v p)).1 (pvB v), sCopy (pX0 (pvI v p)).2 (pvS v)) else pvI v q)
section PIM
variable {v : pV} {N : Nat}
theorem p_keep (h : pInv v N) (k : Int32) : ∃ z v', pCall yX6_keep wsX6_keep 5 [.int k] v z v' ∧ pInv v' N := by
  by_cases h0 : k < 0
  · exact ⟨-1, v, pCall.same fun sh F P χ hL => c_X6_keep_b hL.1 (Or.inl h0), h⟩
  by_cases h2 : 2 ≤ k
  · exact ⟨-1, v, pCall.same fun sh F P χ hL => c_X6_keep_b hL.1 (Or.inr h2), h⟩
  obtain ⟨p, hp31, rfl⟩ := nI_of h0
  have hp : p < 2 := by
    rcases Nat.lt_or_ge p 2 with q | q
    · exact q
    · exact absurd (nI_le q hp31) h2
  refine ⟨cBits (bMadeSet (pvB v)), pKept v p, ?_, h.1, h.2.1, fun q hq X e => ?_⟩
  · intro sh F P χ hL
    obtain ⟨hY, hR, hV⟩ := hL
    have m := c_X6_keep_o (F := F) hY hp
    rw [bMadeSet_e hV.1] at m
    have hpl := hY.2.2.2.2.2.2.2.2 p hp
    obtain ⟨F0, eF0⟩ : ∃ F0, remF0 F P (χ + 36) p (χ + 195 + 17 * p) = F0 := ⟨_, rfl⟩
    have f0 : ∀ i, i < χ + 195 + 17 * p ∨ χ + 195 + 17 * p + 17 ≤ i → F0 i = F i := fun i hi => by
      rw [← eF0]
      exact remF0_ne hi
    have fx : zEq 9 (zsub F0 (χ + 195 + 17 * p + 1)) (pX0 (pvI v p)).1 ∧ zEq 7 (zsub F0 (χ + 195 + 17 * p + 10)) (pX0 (pvI v p)).2 := by
      have hi := hV.2.2.2.2.2.2 p hp
      cases e : pvI v p with
      | none =>
        rw [e] at hi
        have hn : P (χ + 36) p = none := hi
        rw [← eF0]
        unfold remF0
        rw [if_pos hn]
        refine ⟨fun j hj => ?_, fun j hj => ?_⟩
        · show zwin F (χ + 195 + 17 * p) 17 stF (χ + 195 + 17 * p + 1 + j) = stF (1 + j)
          unfold zwin
          rw [if_pos (by omega)]
          exact congrArg stF (by omega)
        · show zwin F (χ + 195 + 17 * p) 17 stF (χ + 195 + 17 * p + 10 + j) = stF (10 + j)
          unfold zwin
          rw [if_pos (by omega)]
          exact congrArg stF (by omega)
      | some X =>
        rw [e] at hi
        obtain ⟨hn, i1, i2⟩ := hi
        rw [← eF0]
        unfold remF0
        rw [if_neg hn]
        exact ⟨i1, i2⟩
    rw [eF0] at m
    have g : ∀ i, i < χ + 195 + 17 * p ∨ χ + 195 + 17 * p + 17 ≤ i → holdF F0 (χ + 195 + 17 * p) (χ + 1) (χ + 19) i = F i := fun i hi => by
      unfold holdF
      rw [zput_ne (by omega), zput_ne (by omega)]
      exact f0 i hi
    have gB : ∀ j, j < 9 → holdF F0 (χ + 195 + 17 * p) (χ + 1) (χ + 19) (χ + 195 + 17 * p + 1 + j) = bCopy (pX0 (pvI v p)).1 (pvB v) j := fun j hj => by
      unfold holdF
      rw [zput_ne (by omega), zput_at hj]
      exact bCopy_j fx.1 (fun i hi => (f0 _ (by omega)).trans (hV.1 i hi)) j hj
    have gS : ∀ j, j < 7 → holdF F0 (χ + 195 + 17 * p) (χ + 1) (χ + 19) (χ + 195 + 17 * p + 10 + j) = sCopy (pX0 (pvI v p)).2 (pvS v) j := fun j hj => by
      unfold holdF
      rw [zput_at hj]
      exact sCopy_j fx.2 (fun i hi => (f0 _ (by omega)).trans (hV.2.1 i hi)) j hj
    obtain ⟨v1, v2, v3, v4, v5, v6, v7⟩ := hV
    refine ⟨17, 497, _, _, _, Nat.le_refl _, Nat.le_refl _, m, ⟨hY.img hp, hR.of (g _ (by omega)), fun j hj => ?_, fun j hj => ?_, ?_, ?_, fun j hj => ?_, fun j hj => ?_, fun q hq => ?_⟩, fun i hi => ⟨remSh_ne (by omega), g i (by omega), remP_ne (by omega) (by omega)⟩⟩
    · exact (g (χ + 1 + j) (by omega)).trans (v1 j hj)
    · exact (g (χ + 19 + j) (by omega)).trans (v2 j hj)
    · exact (g (χ + 40) (by omega)).trans v3
    · exact (congrFun (g χ (by omega)) 8).trans v4
    · exact (g (χ + 37 + j) (by omega)).trans (v5 j hj)
    · exact (g (χ + 10 + j) (by omega)).trans (v6 j hj)
    · by_cases e : q = p
      · subst e
        show pIm _ _ χ q (if q = q then _ else _)
        rw [if_pos rfl]
        exact ⟨by rw [(hpl.sta (by omega)).2]; exact Option.some_ne_none _, gB, gS⟩
      · show pIm _ _ χ q (if q = p then _ else _)
        rw [if_neg e]
        have hk := v7 q hq
        cases ex : pvI v q with
        | none =>
          rw [ex] at hk
          show remP P (χ + 36) p _ (χ + 36) q = none
          rw [remP_s (by omega) e]
          exact hk
        | some X =>
          rw [ex] at hk
          obtain ⟨k1, k2, k3⟩ := hk
          refine ⟨?_, fun j hj => ?_, fun j hj => ?_⟩
          · rw [remP_s (by omega) e]
            exact k1
          · exact (g (χ + 195 + 17 * q + 1 + j) (by omega)).trans (k2 j hj)
          · exact (g (χ + 195 + 17 * q + 10 + j) (by omega)).trans (k3 j hj)
  · have e' : (if q = p then some (bCopy (pX0 (pvI v p)).1 (pvB v), sCopy (pX0 (pvI v p)).2 (pvS v)) else pvI v q) = some X := e
    by_cases eq : q = p
    · rw [if_pos eq] at e'
      cases e'
      obtain ⟨w, hw⟩ := h.1
      exact ⟨⟨w, hw.beq eBeq.copy⟩, h.2.1.seq eSeq.copy⟩
    · rw [if_neg eq] at e'
      exact h.2.2 q hq X e'
theorem p_back (h : pInv v N) (k : Int32) : ∃ z v', pCall yX6_back wsX6_back 6 [.int k] v z v' ∧ pInv v' N := by
  by_cases h0 : k < 0
  · exact ⟨-1, v, pCall.same fun sh F P χ hL => c_X6_back_b hL.1 (Or.inl h0), h⟩
  by_cases h2 : 2 ≤ k
  · exact ⟨-1, v, pCall.same fun sh F P χ hL => c_X6_back_b hL.1 (Or.inr h2), h⟩
  obtain ⟨p, hp31, rfl⟩ := nI_of h0
  have hp : p < 2 := by
    rcases Nat.lt_or_ge p 2 with q | q
    · exact q
    · exact absurd (nI_le q hp31) h2
  cases e : pvI v p with
  | none =>
    refine ⟨-2, v, pCall.same fun sh F P χ hL => ?_, h⟩
    have hi := hL.2.2.2.2.2.2.2.2 p hp
    rw [e] at hi
    exact c_X6_back_n hL.1 hp hi
  | some X =>
    refine ⟨cBits (bMadeSet (bCopy (pvB v) X.1)), (bCopy (pvB v) X.1, sCopy (pvS v) X.2, v.2.2), ?_, ?_⟩
    · intro sh F P χ hL
      obtain ⟨hY, hR, hV⟩ := hL
      obtain ⟨o, s, ho, hs, f1, f2⟩ := hR.get
      have hi := hV.2.2.2.2.2.2 p hp
      rw [e] at hi
      obtain ⟨hn, i1, i2⟩ := hi
      have m := c_X6_back_o (F := F) hY ho hs f1 f2 hp hn
      have hG := hV.rem (o := o) (s := s)
      have x1 : zEq 9 (zsub (tF F P χ o s) (χ + 195 + 17 * p + 1)) X.1 := fun j hj => by
        rw [← i1 j hj]
        exact tF_out (by omega) (by omega)
      have x2 : zEq 7 (zsub (tF F P χ o s) (χ + 195 + 17 * p + 10)) X.2 := fun j hj => by
        rw [← i2 j hj]
        exact tF_out (by omega) (by omega)
      have hr := tF_rg (P := P) ho hs f1 f2
      have hfr : ∀ i, (i < χ ∨ χ + 229 ≤ i) → tF F P χ o s i = F i := fun i hi => tF_out (by omega) (by omega)
      generalize tF F P χ o s = G at m hG x1 x2 hr hfr
      have hL' : pVw (layF G (χ + 195 + 17 * p) (χ + 1) (χ + 19)) (tP P χ ((o + s) % 8)) χ (bCopy (pvB v) X.1, sCopy (pvS v) X.2, v.2.2) := by
        unfold layF
        exact (hG.bk (bCopy_j hG.1 x1)).sk (sCopy_j hG.2.1 x2)
      rw [bMadeSet_e hL'.1] at m
      refine ⟨17, 497, _, _, _, Nat.le_refl _, Nat.le_refl _, m, ⟨hY.trm, hr.of ?_, hL'⟩, ?_⟩
      · unfold layF
        rw [zput_ne (by omega), zput_ne (by omega)]
      · intro i hi
        refine ⟨tS_out (Nat.mod_lt _ (by decide)) (by omega), ?_, tP_out (Nat.mod_lt _ (by decide)) (by omega) (by omega)⟩
        unfold layF
        rw [zput_ne (by omega), zput_ne (by omega)]
        exact hfr i hi
    · obtain ⟨⟨w, hw⟩, hs⟩ := h.2.2 p hp X e
      exact ⟨⟨w, hw.beq eBeq.copy⟩, hs.seq eSeq.copy, h.2.2⟩
/-! what is asked -/
def pGt (B S : pM) (t n u : Int32) : Int32 := if pW B S t n 0 2 = 0 then (if u = -9 then pW B S t n 0 4 else cAt 20 (pW B S t n 3) u - cAt 20 (S 2) u) else -3
section PASK
variable {sh : zSh} {F : pM} {P : Nat → Nat → Option Nat} {χ : Nat}
theorem a_gather (hL : pLI sh F P χ v) {t n : Nat} {u : Int32} (ht : t < 20) (h1 : 1 ≤ n) (hn : n ≤ 999) (hu : u = -9 ∨ ∃ k, k < 20 ∧ u = nI k) : ∃ F', pQ χ F F' ∧ zMet yX6_gather wsX6_gather 42 0 0 [.ref χ, .int (nI t), .int (nI n), .int u] sh F P (some (.int (pGt (pvB v) (pvS v) (nI t) (nI n) u))) sh F' P := by
  obtain ⟨hY, hR, hV⟩ := hL
  have q := tFul_q hV (nI t) (nI n)
  have hu' : u ≠ -9 → ¬ cIsThing u = 0 := by
    rcases hu with e | ⟨k, hk, rfl⟩
    · exact fun h => absurd e h
    · exact fun _ => thg hk
  unfold pGt
  by_cases hw : pW (pvB v) (pvS v) (nI t) (nI n) 0 2 = 0
  · have m := c_X6_gather_o (F := F) hY (thg ht) (wsh h1 hn) hu' ((q.1 2 (by decide) (by decide)).trans hw)
    rw [q.1 4 (by decide) (by decide), show F (χ + 21) = pvS v 2 from hV.2.1 2 (by decide), cAt_q (by decide) (fun t ht => q.2.2 3 t (by decide) (by decide) ht) u] at m
    rw [if_pos hw]
    exact ⟨_, pQ.put, m⟩
  · have m := c_X6_gather_f (F := F) hY (thg ht) (wsh h1 hn) hu' (by rw [q.1 2 (by decide) (by decide)]; exact hw)
    rw [if_neg hw]
    exact ⟨_, pQ.put, m⟩
def pGft (B S : pM) (t n : Int32) : Int32 := if pW B S t n 0 2 = 0 then (it (bgStep B S t n) 20 (pW B S t n 0 4, -9, pW B S t n)).2.1 else -3
theorem a_bestGift (hL : pLI sh F P χ v) {t n : Nat} (ht : t < 20) (h1 : 1 ≤ n) (hn : n ≤ 999) : ∃ z F', pQ χ F F' ∧ zMet yX6_bestGift wsX6_bestGift 42 0 0 [.ref χ, .int (nI t), .int (nI n)] sh F P (some (.int z)) sh F' P ∧
    ((¬ pW (pvB v) (pvS v) (nI t) (nI n) 0 2 = 0) → z = -3) ∧ (pW (pvB v) (pvS v) (nI t) (nI n) 0 2 = 0 → ∃ W, z = (it (bgStep (pvB v) (pvS v) (nI t) (nI n)) 20 (pW (pvB v) (pvS v) (nI t) (nI n) 0 4, -9, W)).2.1) := by
  obtain ⟨hY, hR, hV⟩ := hL
  have q := tFul_q hV (nI t) (nI n)
  by_cases hw : pW (pvB v) (pvS v) (nI t) (nI n) 0 2 = 0
  · have m := c_X6_bestGift_o (F := F) hY (thg ht) (wsh h1 hn) ((q.1 2 (by decide) (by decide)).trans hw)
    refine ⟨_, _, pQ.put, m, fun h => absurd hw h, fun _ => ⟨tFul F χ (nI t) (nI n), ?_⟩⟩
    unfold tBg
    rw [q.1 4 (by decide) (by decide), bgStep_e hV.1 hV.2.1]
  · have m := c_X6_bestGift_f (F := F) hY (thg ht) (wsh h1 hn) (by rw [q.1 2 (by decide) (by decide)]; exact hw)
    exact ⟨-3, _, pQ.put, m, fun _ => rfl, fun h => absurd h hw⟩
theorem a_canHave (hL : pLI sh F P χ v) {t : Nat} (ht : t < 20) : ∃ F', pQ χ F F' ∧ zMet yX6_canHave wsX6_canHave 42 0 0 [.ref χ, .int (nI t)] sh F P (some (.int (pHv (pvB v) (pvS v) (nI t)))) sh F' P := by
  obtain ⟨hY, hR, hV⟩ := hL
  have e20 : F (χ + 20) = pvS v 1 := hV.2.1 1 (by decide)
  unfold pHv
  by_cases hy : bYield (pvB v) (nI t) < 1
  · have m := c_X6_canHave_n (F := F) hY (thg ht) (by rw [bYield_e hV.1]; exact hy)
    unfold tThere at m
    rw [e20] at m
    rw [if_pos hy]
    exact ⟨_, pQ.refl, m⟩
  · have m := c_X6_canHave_o (F := F) hY (thg ht) (by rw [bYield_e hV.1]; exact hy)
    have e : (tHv F χ (nI t)).1 = (hvIt (pvB v) (pvS v) (nI t) (cMin (cDivUp (999 - cMin (cAt 20 (pvS v 1) (nI t)) 999) (bYield (pvB v) (nI t))) 500).toNatClampNeg zZero).1 := by
      unfold tHv tMost tThere
      rw [hvIt_e hV.1 hV.2.1, bYield_e hV.1, e20]
      exact pHv_W _ _ _
    rw [e, bYield_e hV.1] at m
    unfold tThere at m
    rw [e20] at m
    rw [if_neg hy]
    exact ⟨_, pQ.put, m⟩
end PASK
end PIM
