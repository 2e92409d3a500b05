/-! ===== 52.pcall: a call, wherever the object lies: the book ===== -/
def pInv (v : pV) (N : Nat) : Prop := bOk (pvB v) ∧ sOk (pvS v) N ∧ ∀ p, p < 2 → ∀ X, pvI v p = some X → bOk X.1 ∧ sOk X.2 N
theorem pInv.more {v : pV} {N N' : Nat} (h : pInv v N) (hN : N ≤ N') : pInv v N' := ⟨h.1, h.2.1.more hN, fun p hp X e => ⟨(h.2.2 p hp X e).1, (h.2.2 p hp X e).2.more hN⟩⟩
def pCall (y : MethodName) (ws : List Cond) (h : Nat) (as : List Value) (v : pV) (z : Int32) (v' : pV) : Prop := ∀ (sh : zSh) (F : pM) (P : Nat → Nat → Option Nat) (χ : Nat), pLI sh F P χ v →
  ∃ mc ms sh' F' P', mc ≤ 17 ∧ ms ≤ 497 ∧ zMet y ws h mc ms (.ref χ :: as) sh F P (some (.int z)) sh' F' P' ∧ pLI sh' F' P' χ v' ∧ pFr χ sh F P sh' F' P'
theorem pCall.same {y : MethodName} {ws : List Cond} {h : Nat} {as : List Value} {v : pV} {z : Int32} (m : ∀ (sh : zSh) (F : pM) (P : Nat → Nat → Option Nat) (χ : Nat), pLI sh F P χ v → zMet y ws h 0 0 (.ref χ :: as) sh F P (some (.int z)) sh F P) : pCall y ws h as v z v :=
  fun sh F P χ hL => ⟨0, 0, sh, F, P, Nat.zero_le _, Nat.zero_le _, m sh F P χ hL, hL, pFr.refl⟩
theorem pRg.get {F : pM} {χ : Nat} (h : pRg F χ) : ∃ o s, o < 8 ∧ s ≤ 8 ∧ F (χ + 34) 1 = nI o ∧ F (χ + 34) 2 = nI s := h
theorem zup_put {F : pM} {b n j : Nat} {x : Nat → Int32} (h : j < n) : va_up F (b + j) x = zput F b n (va_up (zsub F b) j x) := by rw [zput_up h, zput_id]
section PCB
variable {v : pV} {N : Nat}
theorem p_wipe : pCall yX6_wipe wsX6_wipe 1 [] v (pvL v) (v.1, v.2.1, v.2.2.1, 0, v.2.2.2.2) := by
  intro sh F P χ hL
  obtain ⟨hY, hR, hV⟩ := hL
  have m := c_X6_wipe (F := F) hY
  rw [hV.2.2.2.1] at m
  exact ⟨0, 0, _, _, _, Nat.zero_le _, Nat.zero_le _, m, ⟨hY, hR.of (by rw [zu_up, zup_ne (by omega)]), hV.fl⟩, pFr.fl⟩
theorem p_write (c : Int32) : ∃ z v', pCall yX6_write wsX6_write 2 [.int c] v z v' ∧ v' = (v.1, v.2.1, (if xWrite c (pvL v) = 0 then cPut 60 (pvT v) (pvL v) c else pvT v), (if xWrite c (pvL v) = 0 then pvL v + 1 else pvL v), v.2.2.2.2) := by
  by_cases h : xWrite c (pvL v) = 0
  · refine ⟨pvL v + 1, _, ?_, rfl⟩
    intro sh F P χ hL
    obtain ⟨hY, hR, hV⟩ := hL
    have m := c_X6_write_o (F := F) hY (by rw [hV.2.2.2.1]; exact h)
    rw [hV.2.2.2.1, hV.2.2.1] at m
    refine ⟨0, 0, _, _, _, Nat.zero_le _, Nat.zero_le _, m, ⟨hY, hR.of (by rw [zu_up, zup_ne (by omega), zup_ne (by omega)]), ?_⟩, (pFr.up (by decide)).trans pFr.fl⟩
    rw [if_pos h, if_pos h]
    exact hV.tx.fl
  · refine ⟨xWrite c (pvL v), _, ?_, rfl⟩
    rw [if_neg h, if_neg h]
    refine pCall.same fun sh F P χ hL => ?_
    obtain ⟨hY, hR, hV⟩ := hL
    have m := c_X6_write_e (F := F) (c := c) hY (by rw [hV.2.2.2.1]; exact h)
    rw [hV.2.2.2.1] at m
    exact m
theorem p_forget (h : pInv v N) (t : Int32) : ∃ z v', pCall yX6_forget wsX6_forget 6 [.int t] v z v' ∧ pInv v' N := by
  rcases thg_of t with ht | ⟨a, ha, rfl⟩
  · exact ⟨-1, v, pCall.same fun sh F P χ hL => c_X6_forget_b hL.1 ht, h⟩
  by_cases hm : bMade (pvB v) (nI a) = 0
  · exact ⟨-2, v, pCall.same fun sh F P χ hL => c_X6_forget_n hL.1 (thg ha) (by rw [bMade_e hL.2.2.1]; exact hm), h⟩
  refine ⟨bYield (pvB v) (nI a), (tFind (bStrike (pvB v) (nI a)), v.2), ?_, ?_⟩
  · intro sh F P χ hL
    obtain ⟨hY, hR, hV⟩ := hL
    obtain ⟨o, s, ho, hs, h1, h2⟩ := hR.get
    have m := c_X6_forget_o (F := F) hY ho hs h1 h2 (thg ha) (by rw [bMade_e hV.1]; exact hm)
    rw [bYield_e hV.1] at m
    exact ⟨17, 497, _, _, _, Nat.le_refl _, Nat.le_refl _, m, ⟨hY.trm, (tF_rg ho hs h1 h2).of (zput_ne (by omega)), hV.rem.bk (tFind_e (bStrike_e hV.1 _))⟩, pFr.rem.trans (pFr.put (by decide))⟩
  · obtain ⟨w, hw⟩ := h.1
    exact ⟨hw.strike ha, h.2⟩
theorem p_forbid (h : pInv v N) (t k : Int32) : ∃ z v', pCall yX6_forbid wsX6_forbid 6 [.int t, .int k] v z v' ∧ pInv v' N := by
  rcases thg_of t with ht | ⟨a, ha, rfl⟩
  · exact ⟨-1, v, pCall.same fun sh F P χ hL => c_X6_forbid_b hL.1 (Or.inl ht), h⟩
  by_cases hk : k < 0
  · exact ⟨-1, v, pCall.same fun sh F P χ hL => c_X6_forbid_b hL.1 (Or.inr (Or.inl hk)), h⟩
  obtain ⟨j, hj, rfl⟩ := nI_of hk
  by_cases hc : ¬ nI j < bSubs (pvB v) (nI a)
  · exact ⟨-1, v, pCall.same fun sh F P χ hL => c_X6_forbid_b hL.1 (Or.inr (Or.inr (by rw [bSubs_e hL.2.2.1]; exact hc))), h⟩
  have hc := Decidable.not_not.mp hc
  obtain ⟨w, hw⟩ := h.1
  refine ⟨bSub (pvB v) (nI a) (nI j), (tFind (bRem (pvB v) (nI a) (nI j)), v.2), ?_, ?_⟩
  · intro sh F P χ hL
    obtain ⟨hY, hR, hV⟩ := hL
    obtain ⟨o, s, ho, hs, h1, h2⟩ := hR.get
    have m := c_X6_forbid_o (F := F) hY ho hs h1 h2 (thg ha) hk (by rw [bSubs_e hV.1]; exact hc)
    rw [bSub_e hV.1] at m
    exact ⟨17, 497, _, _, _, Nat.le_refl _, Nat.le_refl _, m, ⟨hY.trm, (tF_rg ho hs h1 h2).of (zput_ne (by omega)), hV.rem.bk (tFind_e (bRem_e hV.1 _ _))⟩, pFr.rem.trans (pFr.put (by decide))⟩
  · have h3 := (hw.1.1 a ha).2.2.2.1.2
    rw [hw.1.subs ha] at hc
    exact ⟨hw.rem ha ((nI_ltI hj (by omega)).mp hc), h.2⟩
theorem p_allow (h : pInv v N) (t u : Int32) : ∃ z v', pCall yX6_allow wsX6_allow 6 [.int t, .int u] v z v' ∧ pInv v' N := by
  rcases thg_of t with ht | ⟨a, ha, rfl⟩
  · exact ⟨-1, v, pCall.same fun sh F P χ hL => c_X6_allow_b hL.1 (Or.inl ht), h⟩
  rcases thg_of u with hu | ⟨b, hb, rfl⟩
  · exact ⟨-1, v, pCall.same fun sh F P χ hL => c_X6_allow_b hL.1 (Or.inr (Or.inl hu)), h⟩
  by_cases hab : nI a = nI b
  · exact ⟨-1, v, pCall.same fun sh F P χ hL => c_X6_allow_b hL.1 (Or.inr (Or.inr hab)), h⟩
  by_cases hh : bHasSub (pvB v) (nI a) (nI b) = true
  · exact ⟨-2, v, pCall.same fun sh F P χ hL => c_X6_allow_h hL.1 (thg ha) (thg hb) hab (by rw [bHasSub_e hL.2.2.1]; exact hh), h⟩
  by_cases h3 : ¬ bSubs (pvB v) (nI a) < 3
  · exact ⟨-3, v, pCall.same fun sh F P χ hL => c_X6_allow_f hL.1 (thg ha) (thg hb) hab (by rw [bHasSub_e hL.2.2.1]; exact hh) (by rw [bSubs_e hL.2.2.1]; exact h3), h⟩
  have h3 := Decidable.not_not.mp h3
  obtain ⟨w, hw⟩ := h.1
  have eD : ∀ (F : pM) (P : Nat → Nat → Option Nat) (χ : Nat), pVw F P χ v → zEq 9 (tAdd F χ (nI a) (nI b)) (bAddSub (bCopy (pvD v) (pvB v)) (nI a) (nI b)) := fun F P χ hV => bAddSub_e (bCopy_j hV.2.2.2.2.2.1 hV.1) _ _
  by_cases hok : bFindOk (bAddSub (bCopy (pvD v) (pvB v)) (nI a) (nI b)) = 0
  · refine ⟨-2, (v.1, v.2.1, v.2.2.1, v.2.2.2.1, v.2.2.2.2.1, tFind (bAddSub (bCopy (pvD v) (pvB v)) (nI a) (nI b)), v.2.2.2.2.2.2), ?_, h⟩
    intro sh F P χ hL
    obtain ⟨hY, hR, hV⟩ := hL
    have m := c_X6_allow_g (F := F) hY (thg ha) (thg hb) hab ⟨rfl, trivial⟩ ⟨rfl, trivial⟩ ⟨rfl, trivial⟩ (by rw [bHasSub_e hV.1]; exact hh) (by rw [bSubs_e hV.1]; exact h3) (by rw [bFindOk_e (eD F P χ hV)]; exact hok)
    exact ⟨0, 0, _, _, _, Nat.zero_le _, Nat.zero_le _, m, ⟨hY, hR.of (zput_ne (by omega)), hV.dr (tFind_e (eD F P χ hV))⟩, pFr.put (by decide)⟩
  · refine ⟨bSubs (bCopy (pvB v) (tFind (bAddSub (bCopy (pvD v) (pvB v)) (nI a) (nI b)))) (nI a), (bCopy (pvB v) (tFind (bAddSub (bCopy (pvD v) (pvB v)) (nI a) (nI b))), v.2.1, v.2.2.1, v.2.2.2.1, v.2.2.2.2.1, tFind (bAddSub (bCopy (pvD v) (pvB v)) (nI a) (nI b)), v.2.2.2.2.2.2), ?_, ?_⟩
    · intro sh F P χ hL
      obtain ⟨hY, hR, hV⟩ := hL
      obtain ⟨o, s, ho, hs, h1, h2⟩ := hR.get
      have hD := tFind_e (eD F P χ hV)
      have m := c_X6_allow_o (F := F) hY ho hs h1 h2 (thg ha) (thg hb) hab ⟨rfl, trivial⟩ ⟨rfl, trivial⟩ ⟨rfl, trivial⟩ (by rw [bHasSub_e hV.1]; exact hh) (by rw [bSubs_e hV.1]; exact h3) (by rw [bFindOk_e (eD F P χ hV)]; exact hok)
      rw [bSubs_e (bCopy_j hV.1 hD)] at m
      refine ⟨17, 497, _, _, _, Nat.le_refl _, Nat.le_refl _, m, ⟨hY.trm, (tF_rg ho hs (by rw [zput_ne (by omega)]; exact h1) (by rw [zput_ne (by omega)]; exact h2)).of (zput_ne (by omega)), ((hV.dr hD).rem).bk (bCopy_j hV.1 hD)⟩, ((pFr.put (by decide)).trans pFr.rem).trans (pFr.put (by decide))⟩
    · rw [hw.1.subs ha] at h3
      have hlt : eWs w a < 3 := by
        have := (hw.1.1 a ha).2.2.2.1.2
        exact (nI_ltI (b := 3) (by omega) (by decide)).mp h3
      obtain ⟨w', hw', -⟩ := hw.add (C := bCopy (pvD v) (pvB v)) eBeq.copy ha hb (fun e => hab (by rw [e])) hlt hok
      exact ⟨⟨w', hw'.beq eBeq.copy⟩, h.2⟩
theorem p_recipe (h : pInv v N) : ∃ z v', pCall yX6_recipe wsX6_recipe 6 [] v z v' ∧ pInv v' N := by
  have eR : ∀ (F : pM) (P : Nat → Nat → Option Nat) (χ : Nat), pVw F P χ v → zEq 3 (tLen F χ) (rRead (pvT v) (pvL v) (pvR v)) := fun F P χ hV => by
    unfold tLen
    rw [hV.2.2.1, hV.2.2.2.1]
    exact rRead_c hV.2.2.2.2.1
  have hok := rRead_ok (T := pvT v) (len := pvL v) (R := pvR v)
  generalize hR0 : rRead (pvT v) (pvL v) (pvR v) = R0 at eR hok
  by_cases h5 : R0 0 5 = 0
  · have eD : ∀ (F : pM) (P : Nat → Nat → Option Nat) (χ : Nat), pVw F P χ v → zEq 9 (bLay (bCopy (zsub F (χ + 10)) (zsub F (χ + 1))) (tLen F χ)) (bLay (bCopy (pvD v) (pvB v)) R0) := fun F P χ hV => bLay_e (bCopy_j hV.2.2.2.2.2.1 hV.1) (eR F P χ hV)
    obtain ⟨w, hw⟩ := h.1
    by_cases hf : bFindOk (bLay (bCopy (pvD v) (pvB v)) R0) = 0
    · refine ⟨-2, (v.1, v.2.1, v.2.2.1, v.2.2.2.1, R0, tFind (bLay (bCopy (pvD v) (pvB v)) R0), v.2.2.2.2.2.2), ?_, h⟩
      intro sh F P χ hL
      obtain ⟨hY, hR, hV⟩ := hL
      have m := c_X6_recipe_g (F := F) hY ⟨rfl, trivial⟩ ⟨rfl, trivial⟩ ⟨rfl, trivial⟩ ⟨rfl, trivial⟩ (by rw [eR F P χ hV 0 (by decide)]; exact h5) (by rw [bFindOk_e (eD F P χ hV)]; exact hf)
      exact ⟨0, 0, _, _, _, Nat.zero_le _, Nat.zero_le _, m, ⟨hY, hR.of (by rw [zput_ne (by omega), zput_ne (by omega)]), (hV.rd (eR F P χ hV)).dr (tFind_e (eD F P χ hV))⟩, (pFr.put (by decide)).trans (pFr.put (by decide))⟩
    · refine ⟨bRank (bCopy (pvB v) (tFind (bLay (bCopy (pvD v) (pvB v)) R0))) (R0 0 2), (bCopy (pvB v) (tFind (bLay (bCopy (pvD v) (pvB v)) R0)), v.2.1, v.2.2.1, v.2.2.2.1, R0, tFind (bLay (bCopy (pvD v) (pvB v)) R0), v.2.2.2.2.2.2), ?_, ?_⟩
      · intro sh F P χ hL
        obtain ⟨hY, hR, hV⟩ := hL
        obtain ⟨o, s, ho, hs, h1, h2⟩ := hR.get
        have hD := tFind_e (eD F P χ hV)
        have m := c_X6_recipe_o (F := F) hY ho hs h1 h2 ⟨rfl, trivial⟩ ⟨rfl, trivial⟩ ⟨rfl, trivial⟩ ⟨rfl, trivial⟩ (by rw [eR F P χ hV 0 (by decide)]; exact h5) (by rw [bFindOk_e (eD F P χ hV)]; exact hf)
        rw [bRank_e (bCopy_j hV.1 hD), eR F P χ hV 0 (by decide)] at m
        refine ⟨17, 497, _, _, _, Nat.le_refl _, Nat.le_refl _, m, ⟨hY.trm, (tF_rg ho hs (by rw [zput_ne (by omega), zput_ne (by omega)]; exact h1) (by rw [zput_ne (by omega), zput_ne (by omega)]; exact h2)).of (zput_ne (by omega)), (((hV.rd (eR F P χ hV)).dr hD).rem).bk (bCopy_j hV.1 hD)⟩, (((pFr.put (by decide)).trans (pFr.put (by decide))).trans pFr.rem).trans (pFr.put (by decide))⟩
      · obtain ⟨c, hc1, hd⟩ := hok h5
        obtain ⟨w', hw'⟩ := hw.lay (C := bCopy (pvD v) (pvB v)) eBeq.copy hd hc1 hf
        exact ⟨⟨w', hw'.beq eBeq.copy⟩, h.2⟩
  · refine ⟨-2, (v.1, v.2.1, v.2.2.1, v.2.2.2.1, R0, v.2.2.2.2.2), ?_, h⟩
    intro sh F P χ hL
    obtain ⟨hY, hR, hV⟩ := hL
    have m := c_X6_recipe_f (F := F) hY ⟨rfl, trivial⟩ (by rw [eR F P χ hV 0 (by decide)]; exact h5)
    exact ⟨0, 0, _, _, _, Nat.zero_le _, Nat.zero_le _, m, ⟨hY, hR.of (by rw [zu_up, zup_ne (by omega), zu_up, zup_ne (by omega), zput_ne (by omega)]), ((hV.rd (eR F P χ hV)).fl).fl⟩, ((pFr.put (by decide)).trans pFr.fl).trans pFr.fl⟩
theorem p_vessel (h : pInv v N) (t u : Int32) : ∃ z v', pCall yX6_vessel wsX6_vessel 6 [.int t, .int u] v z v' ∧ pInv v' N := by
  by_cases hx : xVes t u (bVes (pvB v) u) (bIsVes (pvB v) t) = 0
  · refine ⟨bVes (pvB v) t, (va_up (pvB v) 7 (cPut 20 (pvB v 7) t u), v.2), ?_, ?_⟩
    · intro sh F P χ hL
      obtain ⟨hY, hR, hV⟩ := hL
      obtain ⟨o, s, ho, hs, h1, h2⟩ := hR.get
      have m := c_X6_vessel_o (F := F) (t := t) (v := u) hY ho hs h1 h2 (by rw [bVes_e hV.1, bIsVes_e hV.1]; exact hx)
      rw [bVes_e hV.1, show χ + 8 = χ + 1 + 7 from rfl, zup_put (n := 9) (by decide)] at m
      refine ⟨17, 497, _, _, _, Nat.le_refl _, Nat.le_refl _, m, ⟨hY.trm, (tF_rg ho hs h1 h2).of (zput_ne (by omega)), (hV.rem).bk (zEq.up hV.rem.1 ?_)⟩, pFr.rem.trans (pFr.put (by decide))⟩
      rw [show F (χ + 1 + 7) = pvB v 7 from hV.1 7 (by decide)]
    · obtain ⟨w, hw⟩ := h.1
      unfold xVes at hx
      by_cases c9 : u = -9
      · subst c9
        rw [if_pos rfl] at hx
        rcases thg_of t with ht | ⟨a, ha, rfl⟩
        · rw [if_pos ht] at hx
          exact absurd hx (by decide)
        · exact ⟨hw.setv ha (Or.inl rfl), h.2⟩
      · rw [if_neg c9] at hx
        rcases thg_of t with ht | ⟨a, ha, rfl⟩
        · rw [if_pos ht] at hx
          exact absurd hx (by decide)
        · rw [if_neg (thg ha)] at hx
          rcases thg_of u with hu | ⟨b, hb, rfl⟩
          · rw [if_pos hu] at hx
            exact absurd hx (by decide)
          · rw [if_neg (thg hb)] at hx
            by_cases c1 : nI a = nI b
            · rw [if_pos c1] at hx
              exact absurd hx (by decide)
            · rw [if_neg c1] at hx
              by_cases c2 : bVes (pvB v) (nI b) = -9
              · rw [if_pos c2] at hx
                by_cases c3 : bIsVes (pvB v) (nI a) = true
                · rw [if_pos c3] at hx
                  exact absurd hx (by decide)
                · exact ⟨hw.setv ha (Or.inr ⟨b, hb, fun e => c1 (by rw [e]), rfl, c2, Bool.not_eq_true _ |>.mp c3⟩), h.2⟩
              · rw [if_neg c2] at hx
                exact absurd hx (by decide)
  · refine ⟨xVes t u (bVes (pvB v) u) (bIsVes (pvB v) t), v, pCall.same fun sh F P χ hL => ?_, h⟩
    have m := c_X6_vessel_e (F := F) (t := t) (v := u) hL.1 (by rw [bVes_e hL.2.2.1, bIsVes_e hL.2.2.1]; exact hx)
    rw [bVes_e hL.2.2.1, bIsVes_e hL.2.2.1] at m
    exact m
end PCB
