/-! ===== 68.asks: what an object tells, by its view ===== -/
def pTh (v : pV) (t : Nat) : Nat → Int32
  | 0 => pvS v 1 t
  | 1 => bRank (pvB v) (nI t)
  | 2 => if bMade (pvB v) (nI t) = 0 then -9 else bYield (pvB v) (nI t)
  | 3 => if bMade (pvB v) (nI t) = 0 then -9 else bIngs (pvB v) (nI t)
  | 4 => bVes (pvB v) (nI t)
  | 5 => bSubs (pvB v) (nI t)
  | 6 => pvS v 2 t
  | 7 => pvS v 3 t
  | 8 => pvS v 4 t
  | 9 => pvS v 5 t
  | _ => pvS v 6 t
def pTd (v : pV) : Nat → Int32
  | 0 => cBits (bMadeSet (pvB v))
  | 1 => cSum (pvS v 1) 20
  | 2 => cSum (pvS v 2) 20
  | 3 => pvS v 0 6
  | 4 => bGreatest (pvB v)
  | _ => bMadeSet (pvB v)
section ASKS
variable {v : pV} {sh : zSh} {F : pM} {P : Nat → Nat → Option Nat} {χ : Nat}
theorem a_thing (hL : pLI sh F P χ v) {t w : Nat} (ht : t < 20) (hw : w < 11) : zMet yX6_thing wsX6_thing 3 0 0 [.ref χ, .int (nI t), .int (nI w)] sh F P (some (.int (pTh v t w))) sh F P := by
  obtain ⟨hY, hR, hV⟩ := hL
  have hs : ∀ j, j < 7 → cAt 20 (F (χ + 19 + j)) (nI t) = pvS v j t := fun j hj => by
    rw [eAt ht (by decide)]
    exact congrFun (hV.2.1 j hj) t
  have : w = 0 ∨ w = 1 ∨ w = 2 ∨ w = 3 ∨ w = 4 ∨ w = 5 ∨ w = 6 ∨ w = 7 ∨ w = 8 ∨ w = 9 ∨ w = 10 := by omega
  rcases this with rfl | rfl | rfl | rfl | rfl | rfl | rfl | rfl | rfl | rfl | rfl
  · have m := c_X6_thing_0 (F := F) hY (thg ht)
    rw [show cAt 20 (F (χ + 20)) (nI t) = _ from hs 1 (by decide)] at m
    exact m
  · have m := c_X6_thing_1 (F := F) hY (thg ht)
    rw [bRank_e hV.1] at m
    exact m
  · have m := c_X6_thing_2 (F := F) hY (thg ht)
    rw [bMade_e hV.1, bYield_e hV.1] at m
    exact m
  · have m := c_X6_thing_3 (F := F) hY (thg ht)
    rw [bMade_e hV.1, bIngs_e hV.1] at m
    exact m
  · have m := c_X6_thing_4 (F := F) hY (thg ht)
    rw [bVes_e hV.1] at m
    exact m
  · have m := c_X6_thing_5 (F := F) hY (thg ht)
    rw [bSubs_e hV.1] at m
    exact m
  · have m := c_X6_thing_6 (F := F) hY (thg ht)
    rw [show cAt 20 (F (χ + 21)) (nI t) = _ from hs 2 (by decide)] at m
    exact m
  · have m := c_X6_thing_7 (F := F) hY (thg ht)
    rw [show cAt 20 (F (χ + 22)) (nI t) = _ from hs 3 (by decide)] at m
    exact m
  · have m := c_X6_thing_8 (F := F) hY (thg ht)
    rw [show cAt 20 (F (χ + 23)) (nI t) = _ from hs 4 (by decide)] at m
    exact m
  · have m := c_X6_thing_9 (F := F) hY (thg ht)
    rw [show cAt 20 (F (χ + 24)) (nI t) = _ from hs 5 (by decide)] at m
    exact m
  · have m := c_X6_thing_10 (F := F) hY (thg ht)
    rw [show cAt 20 (F (χ + 25)) (nI t) = _ from hs 6 (by decide)] at m
    exact m
theorem a_thingX (hL : pLI sh F P χ v) : zMet yX6_thing wsX6_thing 3 0 0 [.ref χ, .int 20, .int 0] sh F P (some (.int (-1))) sh F P := c_X6_thing_b hL.1 (by decide)
theorem a_told (hL : pLI sh F P χ v) {w : Nat} (hw : w < 6) : zMet yX6_told wsX6_told 5 0 0 [.ref χ, .int (nI w)] sh F P (some (.int (pTd v w))) sh F P := by
  obtain ⟨hY, hR, hV⟩ := hL
  have hs : ∀ j, j < 7 → cSum (F (χ + 19 + j)) 20 = cSum (pvS v j) 20 := fun j hj => by
    rw [show F (χ + 19 + j) = pvS v j from hV.2.1 j hj]
  have : w = 0 ∨ w = 1 ∨ w = 2 ∨ w = 3 ∨ w = 4 ∨ w = 5 := by omega
  rcases this with rfl | rfl | rfl | rfl | rfl | rfl
  · have m := c_X6_told_0 (F := F) hY
    rw [bMadeSet_e hV.1] at m
    exact m
  · have m := c_X6_told_1 (F := F) hY
    rw [show cSum (F (χ + 20)) 20 = _ from hs 1 (by decide)] at m
    exact m
  · have m := c_X6_told_2 (F := F) hY
    rw [show cSum (F (χ + 21)) 20 = _ from hs 2 (by decide)] at m
    exact m
  · have m := c_X6_told_3 (F := F) hY
    rw [show F (χ + 19) = pvS v 0 from hV.2.1 0 (by decide)] at m
    exact m
  · have m := c_X6_told_4 (F := F) hY
    rw [bGreatest_e hV.1] at m
    exact m
  · have m := c_X6_told_5 (F := F) hY
    rw [bMadeSet_e hV.1] at m
    exact m
theorem a_isNeeded (hL : pLI sh F P χ v) {t u : Nat} (ht : t < 20) (hu : u < 20) : zMet yX6_isNeeded wsX6_isNeeded 5 0 0 [.ref χ, .int (nI t), .int (nI u)] sh F P (some (.int (if cHasBit (bAll (pvB v) (nI u)) (nI t) = 0 then 0 else 1))) sh F P := by
  have m := c_X6_isNeeded (F := F) (t := nI t) (u := nI u) hL.1
  rw [if_neg (thg ht), if_neg (thg hu), bAll_e hL.2.2.1] at m
  exact m
theorem a_ingredient (hL : pLI sh F P χ v) {t k w : Nat} (ht : t < 20) (hk : k < 5) (hw : w < 2) : zMet yX6_ingredient wsX6_ingredient 3 0 0 [.ref χ, .int (nI t), .int (nI k), .int (nI w)] sh F P (some (.int (if nI k < bIngs (pvB v) (nI t) then (if w = 0 then bIng (pvB v) (nI t) (nI k) else bAmt (pvB v) (nI t) (nI k)) else -9))) sh F P := by
  have m := c_X6_ingredient (F := F) (t := nI t) (k := nI k) (w := nI w) hL.1
  rw [if_neg (thg ht), if_neg (nI_pos (by omega)), if_neg (nI_pos (by omega)), if_pos (show nI w ≤ 1 from nI_le (b := 1) (by omega) (by decide)), bIngs_e hL.2.2.1, bIng_e hL.2.2.1, bAmt_e hL.2.2.1] at m
  have : w = 0 ∨ w = 1 := by omega
  rcases this with rfl | rfl
  · rw [if_pos (show nI 0 = 0 from rfl)] at m
    rw [if_pos (show (0 : Nat) = 0 from rfl)]
    exact m
  · rw [if_neg (show ¬ nI 1 = 0 by decide)] at m
    rw [if_neg (show ¬ (1 : Nat) = 0 by decide)]
    exact m
theorem a_substitute (hL : pLI sh F P χ v) {t k : Nat} (ht : t < 20) (hk : k < 2 ^ 31) : zMet yX6_substitute wsX6_substitute 3 0 0 [.ref χ, .int (nI t), .int (nI k)] sh F P (some (.int (if bSubs (pvB v) (nI t) ≤ nI k then -9 else bSub (pvB v) (nI t) (nI k)))) sh F P := by
  have m := c_X6_substitute (F := F) (t := nI t) (k := nI k) hL.1
  rw [if_neg (thg ht), if_pos (nI_pos' hk), bSubs_e hL.2.2.1, bSub_e hL.2.2.1] at m
  exact m
theorem a_share (hL : pLI sh F P χ v) {g M : Nat} (hg : cSum (pvS v 2) 20 = nI g) (hM : cSum (pvS v 3) 20 = nI M) (hb : g + M < 2147483648) : zMet yX6_share wsX6_share 2 0 0 [.ref χ] sh F P (some (.float (eShare (nI g) (nI (g + M))))) sh F P :=
  c_X6_share hL.1 (by rw [show F (χ + 21) = pvS v 2 from hL.2.2.2.1 2 (by decide)]; exact hg) (by rw [show F (χ + 22) = pvS v 3 from hL.2.2.2.1 3 (by decide)]; exact hM) hb
end ASKS
/-! the text, written -/
def pWr (c : Int32) (s : (Nat → Int32) × Int32) : (Nat → Int32) × Int32 := if xWrite c s.2 = 0 then (cPut 60 s.1 s.2 c, s.2 + 1) else s
/-- the memory with the text s -/
def fT (F : pM) (χ : Nat) (s : (Nat → Int32) × Int32) : pM := zu (va_up F (χ + 40) s.1) χ 8 s.2
theorem fT_0 {F : pM} {χ : Nat} : zu F χ 8 0 = fT F χ (F (χ + 40), 0) := by
  unfold fT
  rw [va_up_same]
theorem fT_t {F : pM} {χ : Nat} {s : (Nat → Int32) × Int32} : fT F χ s (χ + 40) = s.1 ∧ fT F χ s χ 8 = s.2 := by
  unfold fT
  refine ⟨?_, ?_⟩
  · rw [zu_up, zup_ne (by omega), zup_eq]
  · rw [zu_up, zup_eq, upd_eq]
theorem fT_fT {F : pM} {χ : Nat} {s : (Nat → Int32) × Int32} {T : Nat → Int32} {L : Int32} : zu (va_up (fT F χ s) (χ + 40) T) χ 8 L = fT F χ (T, L) := by
  unfold fT
  funext i
  by_cases e : i = χ
  · subst e
    rw [zu_up, zu_up, zu_up, zup_eq, zup_eq, zup_ne (by omega), zup_eq, zup_ne (by omega), zup_ne (by omega)]
    funext k
    by_cases e8 : k = 8
    · subst e8
      rw [upd_eq, upd_eq]
    · rw [upd_ne e8, upd_ne e8, upd_ne e8]
  · rw [zu_up, zu_up, zu_up, zup_ne e, zup_ne e]
    by_cases e4 : i = χ + 40
    · subst e4
      rw [zup_eq, zup_eq]
    · rw [zup_ne e4, zup_ne e4, zup_ne e, zup_ne e4]
theorem a_write {sh : zSh} {F : pM} {P : Nat → Nat → Option Nat} {χ : Nat} (hY : zSys sh P χ) (c : Int32) (s : (Nat → Int32) × Int32) : ∃ z, zMet yX6_write wsX6_write 2 0 0 [.ref χ, .int c] sh (fT F χ s) P (some (.int z)) sh (fT F χ (pWr c s)) P := by
  obtain ⟨e1, e2⟩ := fT_t (F := F) (χ := χ) (s := s)
  unfold pWr
  by_cases h : xWrite c s.2 = 0
  · have m := c_X6_write_o (F := fT F χ s) hY (by rw [e2]; exact h)
    rw [e2, e1, fT_fT] at m
    rw [if_pos h]
    exact ⟨_, m⟩
  · have m := c_X6_write_e (F := fT F χ s) (c := c) hY (by rw [e2]; exact h)
    rw [if_neg h]
    exact ⟨_, m⟩
theorem a_fT {sh : zSh} {F : pM} {P : Nat → Nat → Option Nat} {χ : Nat} {v : pV} (hL : pLI sh F P χ v) (s : (Nat → Int32) × Int32) : pLI sh (fT F χ s) P χ (v.1, v.2.1, s.1, s.2, v.2.2.2.2) ∧ pFr χ sh F P sh (fT F χ s) P := by
  obtain ⟨hY, hR, hV⟩ := hL
  unfold fT
  exact ⟨⟨hY, hR.of (by rw [zu_up, zup_ne (by omega), zup_ne (by omega)]), hV.tx.fl⟩, (pFr.up (by decide)).trans pFr.fl⟩
