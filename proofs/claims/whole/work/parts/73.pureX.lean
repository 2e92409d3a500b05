/-! ===== 73.pureX: one call on both sides: what is asked ===== -/
def LI (N : Nat) (sh : zSh) (F : Nat → Nat → Int32) (P : Nat → Nat → Option Nat) (χ : Nat) : Prop := zSys sh P χ ∧ zMd sh P (χ + 41) ∧ ∃ G, zVw F (χ + 41) 13 G ∧ eX N F P χ G
/-- one call: both sides answer the same, and the relation is kept -/
def eCall (N χ : Nat) (yX : MethodName) (wX : List Cond) (hX : Nat) (yM : MethodName) (wM : List Cond) (hM : Nat) (as : List Value) (sh : zSh) (F : Nat → Nat → Int32) (P : Nat → Nat → Option Nat) : Prop :=
  ∃ (z : Int32) (mc ms : Nat) (sh' : zSh) (F' F'' : Nat → Nat → Int32) (P' : Nat → Nat → Option Nat), mc ≤ 17 ∧ ms ≤ 497 ∧ zMet yX wX hX mc ms (.ref χ :: as) sh F P (some (.int z)) sh' F' P' ∧
    zMet yM wM hM 0 0 (.ref (χ + 41) :: as) sh' F' P' (some (.int z)) sh' F'' P' ∧ (∀ j, j < χ + 54 → sh' j = sh j) ∧ LI (N + 60000) sh' F'' P' χ
theorem eCall.ask {N χ : Nat} {yX yM : MethodName} {wX wM : List Cond} {hX hM : Nat} {as : List Value} {sh : zSh} {F F' : Nat → Nat → Int32} {P : Nat → Nat → Option Nat} {G G' : Nat → Nat → Int32} {z : Int32}
    (hY : zSys sh P χ) (hMd : zMd sh P (χ + 41)) (hE : eX N F P χ G) (hk : eKeep χ F F') (hQ : eQ G G') (m1 : zMet yX wX hX 0 0 (.ref χ :: as) sh F P (some (.int z)) sh F' P) (m2 : zMet yM wM hM 0 0 (.ref (χ + 41) :: as) sh F' P (some (.int z)) sh (zput F' (χ + 41) 13 G') P) : eCall N χ yX wX hX yM wM hM as sh F P :=
  ⟨z, 0, 0, sh, F', _, P, Nat.zero_le _, Nat.zero_le _, m1, m2, fun _ _ => rfl, hY, hMd, G', fun j hj => zput_at hj, hE.ask (hk.trans (eKeep.put (Or.inr (Or.inr (Or.inr ⟨by decide, by decide⟩))))) hQ (by omega)⟩
theorem eCall.ask0 {N χ : Nat} {yX yM : MethodName} {wX wM : List Cond} {hX hM : Nat} {as : List Value} {sh : zSh} {F : Nat → Nat → Int32} {P : Nat → Nat → Option Nat} {z : Int32}
    (h : LI N sh F P χ) (m1 : zMet yX wX hX 0 0 (.ref χ :: as) sh F P (some (.int z)) sh F P) (m2 : zMet yM wM hM 0 0 (.ref (χ + 41) :: as) sh F P (some (.int z)) sh F P) : eCall N χ yX wX hX yM wM hM as sh F P := by
  obtain ⟨hY, hMd, G, hV, hE⟩ := h
  exact ⟨z, 0, 0, sh, F, F, P, Nat.zero_le _, Nat.zero_le _, m1, m2, fun _ _ => rfl, hY, hMd, G, hV, hE.ask eKeep.refl eQ.refl (by omega)⟩
theorem mIn_of {x : Int32} (a b : Nat) (ha : a < 2 ^ 31) (hb : b + 1 < 2 ^ 31) : (mIn x (nI a) (nI b) = 0 ∧ (x < nI a ∨ nI b < x)) ∨ ∃ k, a ≤ k ∧ k ≤ b ∧ x = nI k ∧ ¬ mIn x (nI a) (nI b) = 0 := by
  unfold mIn
  by_cases h1 : x < nI a
  · rw [if_pos h1]
    exact Or.inl ⟨rfl, Or.inl h1⟩
  · rw [if_neg h1]
    by_cases h2 : nI b < x
    · rw [if_pos h2]
      exact Or.inl ⟨rfl, Or.inr h2⟩
    · rw [if_neg h2]
      right
      rcases pk_ix x (n := b + 1) (by omega) with h | h | ⟨j, hj, rfl⟩
      · exact absurd (Int32.lt_of_lt_of_le h (nI_pos' ha)) h1
      · exact absurd (Int32.lt_of_lt_of_le (nI_lt (by omega) hb) h) h2
      · exact ⟨j, by
          rcases Nat.lt_or_ge j a with q | q
          · exact absurd (nI_lt q ha) h1
          · exact q, by omega, rfl, by decide⟩
/-- what is a thing for one side is one for the other -/
theorem eThg (t : Int32) : (cIsThing t = 0 ∧ mIn t 0 19 = 0) ∨ ∃ k, k < 20 ∧ t = nI k ∧ ¬ cIsThing t = 0 ∧ ¬ mIn t 0 19 = 0 := by
  have hs : cIsThing t = mIn t 0 19 := by
    unfold cIsThing mIn
    by_cases h : t < 0
    · rw [if_pos h, if_pos h]
    · rw [if_neg h, if_neg h]
      by_cases h2 : (20 : Int32) ≤ t
      · rw [if_pos h2, if_pos (Int32.lt_of_lt_of_le (show (19 : Int32) < 20 by decide) h2)]
      · rw [if_neg h2, if_neg fun h3 => h2 ?_]
        rcases pk_ix t (n := 20) (by decide) with q | q | ⟨j, hj, rfl⟩
        · exact absurd q h
        · exact q
        · exact absurd h3 (nI_nlt (a := 19) (b := j) (by omega) (by decide))
  rw [hs]
  rcases mIn_of (x := t) 0 19 (by decide) (by decide) with ⟨h, -⟩ | ⟨k, -, hk, e, h⟩
  · exact Or.inl ⟨h, h⟩
  · exact Or.inr ⟨k, by omega, e, h, h⟩
theorem eWsh (n : Int32) : (cIsWished n = 0 ∧ mIn n 1 999 = 0) ∨ ∃ k, 1 ≤ k ∧ k ≤ 999 ∧ n = nI k ∧ ¬ cIsWished n = 0 ∧ ¬ mIn n 1 999 = 0 := by
  have hs : cIsWished n = mIn n 1 999 := rfl
  rw [hs]
  rcases mIn_of (x := n) 1 999 (by decide) (by decide) with ⟨h, -⟩ | ⟨k, k1, hk, e, h⟩
  · exact Or.inl ⟨h, h⟩
  · exact Or.inr ⟨k, k1, hk, e, h, h⟩
theorem eBat (n : Int32) : ((n < 1 ∨ 99 < n) ∧ mIn n 1 99 = 0) ∨ ∃ k, 1 ≤ k ∧ k ≤ 99 ∧ n = nI k ∧ ¬ n < 1 ∧ n ≤ 99 ∧ ¬ mIn n 1 99 = 0 := by
  rcases mIn_of (x := n) 1 99 (by decide) (by decide) with ⟨h, h2⟩ | ⟨k, k1, hk, e, h⟩
  · exact Or.inl ⟨h2, h⟩
  · refine Or.inr ⟨k, k1, hk, e, ?_, ?_, h⟩
    · rw [e]
      exact nI_nlt (b := 1) k1 (by omega)
    · rw [e]
      exact nI_le (b := 99) hk (by decide)
theorem eNin {k : Int32} {n : Nat} (hn : n < 2 ^ 31) : (k.toInt < 0 ∨ (n : Int) < k.toInt) ∨ ∃ j, j ≤ n ∧ k = nI j := by
  by_cases h : k.toInt < 0
  · exact Or.inl (Or.inl h)
  · by_cases h2 : (n : Int) < k.toInt
    · exact Or.inl (Or.inr h2)
    · refine Or.inr ⟨k.toInt.toNat, by omega, ?_⟩
      have e := nI_toInt (n := k.toInt.toNat) (by omega)
      exact Int32.toInt_inj.mp (by rw [e]; omega)
section EASK
variable {N χ : Nat} {sh : zSh} {F : Nat → Nat → Int32} {P : Nat → Nat → Option Nat}
abbrev eC3 (N χ : Nat) (yX : MethodName) (wX : List Cond) (hX : Nat) (yM : MethodName) (wM : List Cond) (hM : Nat) (as : List Value) (sh : zSh) (F : Nat → Nat → Int32) (P : Nat → Nat → Option Nat) : Prop := eCall N χ yX wX hX yM wM hM as sh F P
theorem zs0 {F : Nat → Nat → Int32} {b : Nat} : zsub F b 0 = F b := rfl
theorem k_fault (h : LI N sh F P χ) (k : Int32) : eCall N χ yX6_fault wsX6_fault 1 yX7_fault wsX7_fault 1 [.int k] sh F P := by
  obtain ⟨hY, hMd, G, hV, hE⟩ := id h
  have m1 := c_X6_fault (F := F) (k := k) hY
  have m2 := c_X7_fault (F := F) (k := k) hMd hV
  have e : (if k < 0 then (-1 : Int32) else if k ≤ 1 then (if F χ 9 = 0 then -9 else if k = 0 then F χ 9 else F χ 10) else -1) = (if k = 0 then G 0 7 else if k = 1 then G 0 8 else -1) := by
    obtain ⟨-, -, -, -, hf⟩ := hE
    rcases pk_ix k (n := 2) (by decide) with q | q | ⟨j, hj, rfl⟩
    · rw [if_pos q, if_neg (fun e => by rw [e] at q; exact absurd q (by decide)), if_neg (fun e => by rw [e] at q; exact absurd q (by decide))]
    · rw [if_neg (fun h0 => absurd (Int32.lt_of_le_of_lt q h0) (by decide)), if_neg (fun h1 => absurd (Int32.le_trans q h1) (by decide)), if_neg (fun e => by rw [e] at q; exact absurd q (by decide)), if_neg (fun e => by rw [e] at q; exact absurd q (by decide))]
    · have : j = 0 ∨ j = 1 := by omega
      rcases this with rfl | rfl
      · rw [if_neg (show ¬ nI 0 < 0 by decide), if_pos (show nI 0 ≤ 1 by decide), if_pos (show nI 0 = 0 by decide), if_pos (show nI 0 = 0 by decide)]
        rcases hf with ⟨f0, f7, f8⟩ | ⟨f0, f7, f8⟩
        · rw [if_pos f0, f7]
        · rw [if_neg f0, f7]
      · rw [if_neg (show ¬ nI 1 < 0 by decide), if_pos (show nI 1 ≤ 1 by decide), if_neg (show ¬ nI 1 = 0 by decide), if_neg (show ¬ nI 1 = 0 by decide), if_pos (show nI 1 = 1 by decide)]
        rcases hf with ⟨f0, f7, f8⟩ | ⟨f0, f7, f8⟩
        · rw [if_pos f0, f8]
        · rw [if_neg f0, f8]
  rw [← e] at m2
  exact eCall.ask0 h m1 m2
theorem k_told (h : LI N sh F P χ) (k : Int32) : eCall N χ yX6_told wsX6_told 5 yX7_told wsX7_told 6 [.int k] sh F P := by
  obtain ⟨hY, hMd, G, hV, hE⟩ := id h
  have hE' := hE
  obtain ⟨hst, ⟨o, s, ho, hs, f1, f2, g2, -⟩, -, ⟨L, f8, hL⟩, -⟩ := hE'
  obtain ⟨cx, hrn, hrk, hsk, hwm, ⟨M, hM, eM⟩, g, hg, eg⟩ := id hst
  rcases eNin (k := k) (n := 7) (by decide) with hx | ⟨j, hj, rfl⟩
  · exact eCall.ask0 h (c_X6_told_x hY hx) (c_X7_told_x hMd hV hx)
  · have hj' : j = 0 ∨ j = 1 ∨ j = 2 ∨ j = 3 ∨ j = 4 ∨ j = 5 ∨ j = 6 ∨ j = 7 := by omega
    rcases hj' with rfl | rfl | rfl | rfl | rfl | rfl | rfl | rfl
    · have m1 := c_X6_told_0 (F := F) hY
      rw [eRecipes cx] at m1
      exact eCall.ask0 h m1 (c_X7_told_0 hMd hV)
    · have m1 := c_X6_told_1 (F := F) hY
      rw [eStored (S := F (χ + 20)) (w := G 1) (fun t ht => hsk.1 1 t (by decide) (by decide) ht)] at m1
      exact eCall.ask0 h m1 (c_X7_told_1 hMd hV)
    · have m1 := c_X6_told_2 (F := F) hY
      rw [show cSum (F (χ + 21)) 20 = G 1 460 from hsk.2.2] at m1
      exact eCall.ask0 h m1 (c_X7_told_2 hMd hV)
    · have m1 := c_X6_told_3 (F := F) hY
      rw [show F (χ + 19) 6 = G 1 461 from hsk.2.1] at m1
      exact eCall.ask0 h m1 (c_X7_told_3 hMd hV)
    · have m1 := c_X6_told_4 (F := F) hY
      have hr := mRanks_n (w := G 1) (v := G 5) cx.1 12 (by decide)
      have hr8 : eRn (mR12 G) (nRs (G 1) 12) 8 := fun t ht => ⟨(hr t ht).1, (hrn t ht).2⟩
      rw [eGreat cx (R := nRs (G 1) 12) (b := 8) (by decide) (fun t ht => hrn t ht) hr8] at m1
      refine eCall.ask hY hMd hE eKeep.refl ⟨fun i _ => ?_, ?_, ?_, ?_, fun q _ => ?_⟩ m1 (c_X7_told_4 hMd hV cx.1.ok)
      all_goals rw [zup_ne (by decide)]
    · have m1 := c_X6_told_5 (F := F) hY
      rw [eMadeSet cx] at m1
      exact eCall.ask0 h m1 (c_X7_told_5 hMd hV)
    · have m1 := c_X6_told_6 (F := F) hY
      rw [f8, ← hL.2.1] at m1
      exact eCall.ask0 h m1 (c_X7_told_6 hMd hV)
    · have m1 := c_X6_told_7 (F := F) hY
      rw [f2, ← g2] at m1
      exact eCall.ask0 h m1 (c_X7_told_7 hMd hV)
theorem k_thing (h : LI N sh F P χ) (t k : Int32) : eCall N χ yX6_thing wsX6_thing 3 yX7_thing wsX7_thing 5 [.int t, .int k] sh F P := by
  obtain ⟨hY, hMd, G, hV, hE⟩ := id h
  obtain ⟨cx, hrn, hrk, hsk, hwm, -, -⟩ := id hE.1
  rcases eThg t with ⟨ht, ht'⟩ | ⟨a, ha, rfl, ht, ht'⟩
  · exact eCall.ask0 h (c_X6_thing_b hY ht) (c_X7_thing_b hMd hV (Or.inl ht'))
  · have hmade : ∀ x : Int32, (if bMade (zsub F (χ + 1)) (nI a) = 0 then -9 else x) = if mMade (G 1) a = 0 then -9 else x := fun x => by
      rw [cx.made ha, cx.1.made ha]
    have hSj : ∀ j, 1 ≤ j → j ≤ 6 → cAt 20 (F (χ + 19 + j)) (nI a) = G 1 (23 * a + eOff (j + 1)) := fun j h1 h6 => (eAt ha (by decide)).trans (hsk.1 j a h1 h6 ha)
    rcases eNin (k := k) (n := 10) (by decide) with hx | ⟨j, hj, rfl⟩
    · refine eCall.ask0 h (c_X6_thing_x hY ht hx) (c_X7_thing_b hMd hV (Or.inr ?_))
      rcases mIn_of (x := k) 0 10 (by decide) (by decide) with ⟨h, -⟩ | ⟨k', -, hk, e, -⟩
      · exact h
      · rw [e, nI_toInt (by omega)] at hx
        omega
    · have hj' : j = 0 ∨ j = 1 ∨ j = 2 ∨ j = 3 ∨ j = 4 ∨ j = 5 ∨ j = 6 ∨ j = 7 ∨ j = 8 ∨ j = 9 ∨ j = 10 := by omega
      rcases hj' with rfl | rfl | rfl | rfl | rfl | rfl | rfl | rfl | rfl | rfl | rfl
      · have m1 := c_X6_thing_0 (F := F) hY ht
        rw [show cAt 20 (F (χ + 20)) (nI a) = _ from hSj 1 (by decide) (by decide)] at m1
        exact eCall.ask0 h m1 (c_X7_thing_0 hMd hV ha)
      · have m1 := c_X6_thing_1 (F := F) hY ht
        have hr := mRanks_n (w := G 1) (v := G 5) cx.1 12 (by decide)
        have e : bRank (zsub F (χ + 1)) (nI a) = mR12 G a := (eAt ha (by decide)).trans ((hrn a ha).1.trans (hr a ha).1.symm)
        rw [e] at m1
        refine eCall.ask hY hMd hE eKeep.refl ⟨fun i _ => ?_, ?_, ?_, ?_, fun q _ => ?_⟩ m1 (c_X7_thing_1 hMd hV ha cx.1.ok)
        all_goals rw [zup_ne (by decide)]
      · have m1 := c_X6_thing_2 (F := F) hY ht
        rw [hmade, cx.yield ha, ← (cx.1 a ha).1.1] at m1
        exact eCall.ask0 h m1 (c_X7_thing_2 hMd hV ha)
      · have m1 := c_X6_thing_3 (F := F) hY ht
        rw [hmade, cx.ings ha, ← (cx.1 a ha).2.1.1] at m1
        exact eCall.ask0 h m1 (c_X7_thing_3 hMd hV ha)
      · have m1 := c_X6_thing_4 (F := F) hY ht
        rw [cx.ves ha] at m1
        exact eCall.ask0 h m1 (c_X7_thing_4 hMd hV ha)
      · have m1 := c_X6_thing_5 (F := F) hY ht
        rw [cx.subs ha, ← (cx.1 a ha).2.2.2.1.1] at m1
        exact eCall.ask0 h m1 (c_X7_thing_5 hMd hV ha)
      · have m1 := c_X6_thing_6 (F := F) hY ht
        rw [show cAt 20 (F (χ + 21)) (nI a) = _ from hSj 2 (by decide) (by decide)] at m1
        exact eCall.ask0 h m1 (c_X7_thing_6 hMd hV ha)
      · have m1 := c_X6_thing_7 (F := F) hY ht
        rw [show cAt 20 (F (χ + 22)) (nI a) = _ from hSj 3 (by decide) (by decide)] at m1
        exact eCall.ask0 h m1 (c_X7_thing_7 hMd hV ha)
      · have m1 := c_X6_thing_8 (F := F) hY ht
        rw [show cAt 20 (F (χ + 23)) (nI a) = _ from hSj 4 (by decide) (by decide)] at m1
        exact eCall.ask0 h m1 (c_X7_thing_8 hMd hV ha)
      · have m1 := c_X6_thing_9 (F := F) hY ht
        rw [show cAt 20 (F (χ + 24)) (nI a) = _ from hSj 5 (by decide) (by decide)] at m1
        exact eCall.ask0 h m1 (c_X7_thing_9 hMd hV ha)
      · have m1 := c_X6_thing_10 (F := F) hY ht
        rw [show cAt 20 (F (χ + 25)) (nI a) = _ from hSj 6 (by decide) (by decide)] at m1
        exact eCall.ask0 h m1 (c_X7_thing_10 hMd hV ha)
theorem k_ingredient (h : LI N sh F P χ) (t k w : Int32) : eCall N χ yX6_ingredient wsX6_ingredient 3 yX7_ingredient wsX7_ingredient 3 [.int t, .int k, .int w] sh F P := by
  obtain ⟨hY, hMd, G, hV, hE⟩ := id h
  obtain ⟨cx, -⟩ := id hE.1
  have m1 := c_X6_ingredient (F := F) (t := t) (k := k) (w := w) hY
  rcases eThg t with ⟨ht, ht'⟩ | ⟨a, ha, rfl, ht, ht'⟩
  · rw [if_pos ht] at m1
    exact eCall.ask0 h m1 (c_X7_ingredient_b hMd hV (Or.inl ht'))
  · rw [if_neg ht] at m1
    by_cases hk : k < 0
    · rw [if_pos hk] at m1
      exact eCall.ask0 h m1 (c_X7_ingredient_b hMd hV (Or.inr (Or.inl hk)))
    · rw [if_neg hk] at m1
      rcases mIn_of (x := w) 0 1 (by decide) (by decide) with ⟨h0, h2⟩ | ⟨q, -, hq, rfl, hw⟩
      · have e : (if w < 0 then (-1 : Int32) else if w ≤ 1 then (if k < bIngs (zsub F (χ + 1)) (nI a) then (if w = 0 then bIng (zsub F (χ + 1)) (nI a) k else bAmt (zsub F (χ + 1)) (nI a) k) else -9) else -1) = -1 := by
          rcases h2 with h2 | h2
          · rw [if_pos (show w < 0 from h2)]
          · by_cases h3 : w < 0
            · rw [if_pos h3]
            · rw [if_neg h3, if_neg (show ¬ w ≤ 1 from Int32.not_le.mpr h2)]
        rw [e] at m1
        exact eCall.ask0 h m1 (c_X7_ingredient_b hMd hV (Or.inr (Or.inr h0)))
      · rw [if_neg (nI_nn (p := q) (by omega)), if_pos (show nI q ≤ 1 from nI_le (b := 1) hq (by decide)), cx.ings ha] at m1
        by_cases c : k < nI (eWc (G 1) a)
        · obtain ⟨j, hj, rfl⟩ := nI_of hk
          have c5 := (cx.1 a ha).2.1.2
          have hjc : j < eWc (G 1) a := (nI_ltI hj (by omega)).mp c
          rw [if_pos c, cx.ing ha hjc, cx.amt ha hjc] at m1
          have m2 := c_X7_ingredient_o (F := F) (t := a) (k := j) (u := q) hMd hV ha (by omega) (by omega) (by rw [(cx.1 a ha).2.1.1]; exact c)
          have hi := (cx.1 a ha).2.2.2.2.1 j hjc
          have hq2 : q = 0 ∨ q = 1 := by omega
          rcases hq2 with rfl | rfl
          · rw [if_pos (show nI 0 = 0 by decide), ← hi.1] at m1
            exact eCall.ask0 h m1 m2
          · rw [if_neg (show ¬ nI 1 = 0 by decide), ← hi.2.2.1] at m1
            exact eCall.ask0 h m1 m2
        · rw [if_neg c] at m1
          exact eCall.ask0 h m1 (c_X7_ingredient_n hMd hV ha hk hw (by rw [(cx.1 a ha).2.1.1]; exact c))
theorem k_substitute (h : LI N sh F P χ) (t k : Int32) : eCall N χ yX6_substitute wsX6_substitute 3 yX7_substitute wsX7_substitute 3 [.int t, .int k] sh F P := by
  obtain ⟨hY, hMd, G, hV, hE⟩ := id h
  obtain ⟨cx, -⟩ := id hE.1
  have m1 := c_X6_substitute (F := F) (t := t) (k := k) hY
  rcases eThg t with ⟨ht, ht'⟩ | ⟨a, ha, rfl, ht, ht'⟩
  · rw [if_pos ht] at m1
    exact eCall.ask0 h m1 (c_X7_substitute_b hMd hV (Or.inl ht'))
  · rw [if_neg ht] at m1
    by_cases hk : k < 0
    · rw [if_neg (Int32.not_le.mpr hk)] at m1
      exact eCall.ask0 h m1 (c_X7_substitute_b hMd hV (Or.inr hk))
    · rw [if_pos (Int32.not_lt.mp hk), cx.subs ha] at m1
      have e19 := (cx.1 a ha).2.2.2.1
      by_cases c : nI (eWs (G 1) a) ≤ k
      · rw [if_pos c] at m1
        exact eCall.ask0 h m1 (c_X7_substitute_n hMd hV ha hk (by rw [e19.1]; exact Int32.not_lt.mpr c))
      · obtain ⟨j, hj, rfl⟩ := nI_of hk
        have hjs : j < eWs (G 1) a := by
          rcases Nat.lt_or_ge j (eWs (G 1) a) with q | q
          · exact q
          · exact absurd (nI_le q hj) c
        rw [if_neg c, cx.sub ha hjs, ← ((cx.1 a ha).2.2.2.2.2.1 j hjs).1] at m1
        exact eCall.ask0 h m1 (c_X7_substitute_o hMd hV ha (by omega) (by rw [e19.1]; exact Int32.not_le.mp c))
theorem k_isNeeded (h : LI N sh F P χ) (t u : Int32) : eCall N χ yX6_isNeeded wsX6_isNeeded 5 yX7_isNeeded wsX7_isNeeded 4 [.int t, .int u] sh F P := by
  obtain ⟨hY, hMd, G, hV, hE⟩ := id h
  obtain ⟨cx, hrn, hrk, -⟩ := id hE.1
  have m1 := c_X6_isNeeded (F := F) (t := t) (u := u) hY
  rcases eThg t with ⟨ht, ht'⟩ | ⟨a, ha, rfl, ht, ht'⟩
  · rw [if_pos ht] at m1
    exact eCall.ask0 h m1 (c_X7_isNeeded_b hMd hV (Or.inl ht'))
  · rw [if_neg ht] at m1
    rcases eThg u with ⟨hu, hu'⟩ | ⟨b, hb, rfl, hu, hu'⟩
    · rw [if_pos hu] at m1
      exact eCall.ask0 h m1 (c_X7_isNeeded_b hMd hV (Or.inr hu'))
    · rw [if_neg hu, eNeeded cx hrk ha hb (G 12)] at m1
      generalize eK : mNd (G 1) (G 12) b 20 = K at m1
      refine eCall.ask hY hMd hE eKeep.refl ⟨fun i _ => ?_, ?_, ?_, ?_, fun q _ => ?_⟩ m1 (c_X7_isNeeded_o hMd hV ha hb cx.1.ok ⟨eK, trivial⟩)
      all_goals rw [zup_ne (by decide)]
end EASK
