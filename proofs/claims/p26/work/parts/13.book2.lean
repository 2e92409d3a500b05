/-! ===== 13.book2: what writes in ThingMaker$Book, fill, bitCount ===== -/
section ZMORE
variable {M : ZM} {X : ZX} {Q : State → Prop} {pc : Nat} {ls : List (Option Value)} {st : List Value} {ρ : Nat → Nat} {sh : zSh} {F : Nat → Nat → Int32} {P : Nat → Nat → Option Nat} {k n : Nat}
theorem aw_ldcw {index : Nat} {v : Int32} (hc : Cond.constant M.2.1 index v ∈ M.2.2.1) (hd : decode M.1 pc = .ok (.ldc_w index, 3)) (kk : AW M X Q (pc + 3) ls (.int v :: st) ρ sh F P k n) : AW M X Q pc ls st ρ sh F P k n := fun ok e el H locs lsA r hS hl => lv_ldcw ok.1 ok.2.1 ok.2.2.2.1 (ok.2.2.2.2.1 _ hc) hd (kk ok e el H locs lsA r hS hl)
theorem aw_iushr {x y : Int32} (hd : decode M.1 pc = .ok (.iushr, 1)) (kk : AW M X Q (pc + 1) ls (.int ((x.toUInt32 >>> (y.toUInt32 &&& Int32.toUInt32 31)).toInt32) :: st) ρ sh F P k n) : AW M X Q pc ls (.int y :: .int x :: st) ρ sh F P k n := fun ok e el H locs lsA r hS hl => lv_iushr ok.1 ok.2.1 hd rfl (kk ok e el H locs lsA r hS hl)
theorem aw_cF {F' : Nat → Nat → Int32} (h : F = F') (kk : AW M X Q pc ls st ρ sh F' P k n) : AW M X Q pc ls st ρ sh F P k n := h ▸ kk
theorem aw_top {x x' : Int32} (h : x' = x) (kk : AW M X Q pc ls (.int x' :: st) ρ sh F P k n) : AW M X Q pc ls (.int x :: st) ρ sh F P k n := h ▸ kk
end ZMORE
theorem it_stick {σ : Type} {f : Nat → σ → σ} {p : σ → Prop} (hp : ∀ i s, p s → f i s = s) {s : σ} {i : Nat} (h : p (it f i s)) : ∀ n, i ≤ n → it f n s = it f i s := by
  intro n
  induction n with
  | zero =>
    intro hi
    have : i = 0 := by omega
    rw [this]
  | succ n ih =>
    intro hi
    rcases Nat.lt_or_ge i (n + 1) with h2 | h2
    · have e := ih (by omega)
      show f n (it f n s) = _
      rw [e, hp _ _ h]
    · have : i = n + 1 := by omega
      rw [this]
/-- a window of the memory, laid anew -/
def zput (F : Nat → Nat → Int32) (b n : Nat) (B : Nat → Nat → Int32) : Nat → Nat → Int32 := fun i => if b ≤ i ∧ i < b + n then B (i - b) else F i
theorem zput_up {F : Nat → Nat → Int32} {b n j : Nat} {B : Nat → Nat → Int32} {x : Nat → Int32} (h : j < n) : zput F b n (va_up B j x) = va_up (zput F b n B) (b + j) x := by
  funext i
  by_cases hi : i = b + j
  · subst hi
    have e : b ≤ b + j ∧ b + j < b + n := ⟨by omega, by omega⟩
    have e2 : b + j - b = j := by omega
    simp [zput, va_up, e, e2]
  · by_cases e : b ≤ i ∧ i < b + n
    · have e2 : ¬ i - b = j := by omega
      simp [zput, va_up, e, e2, hi]
    · simp only [zput, va_up, if_neg e, if_neg hi]
theorem zput_id {F : Nat → Nat → Int32} {b n : Nat} : zput F b n (zsub F b) = F := by
  funext i
  by_cases e : b ≤ i ∧ i < b + n
  · have e2 : b + (i - b) = i := by omega
    simp only [zput, zsub, if_pos e, e2]
  · simp only [zput, if_neg e]
theorem zput_at {F : Nat → Nat → Int32} {b n j : Nat} {B : Nat → Nat → Int32} (h : j < n) : zput F b n B (b + j) = B j := by
  have e : b ≤ b + j ∧ b + j < b + n := ⟨by omega, by omega⟩
  have e2 : b + j - b = j := by omega
  simp only [zput, if_pos e, e2]
theorem zput_ne {F : Nat → Nat → Int32} {b n i : Nat} {B : Nat → Nat → Int32} (h : i < b ∨ b + n ≤ i) : zput F b n B i = F i := by
  have e : ¬ (b ≤ i ∧ i < b + n) := by omega
  simp only [zput, if_neg e]
theorem zput_zput {F : Nat → Nat → Int32} {b n : Nat} {B B' : Nat → Nat → Int32} : zput (zput F b n B) b n B' = zput F b n B' := by
  funext i
  by_cases e : b ≤ i ∧ i < b + n
  · simp only [zput, if_pos e]
  · simp only [zput, if_neg e]
theorem zsub_up {F : Nat → Nat → Int32} {b j : Nat} {x : Nat → Int32} : zsub (va_up F (b + j) x) b = va_up (zsub F b) j x := by
  funext i
  by_cases h : i = j
  · subst h
    simp [zsub, va_up]
  · have e : ¬ b + i = b + j := by omega
    simp only [zsub, va_up, if_neg h, if_neg e]
theorem zup_ne {α : Type} {F : Nat → α} {a b : Nat} {x : α} (h : b ≠ a) : va_up F a x b = F b := by simp only [va_up, if_neg h]
theorem zup_eq {α : Type} {F : Nat → α} {a : Nat} {x : α} : va_up F a x a = x := by simp only [va_up, if_pos]
def bStrike (B : Nat → Nat → Int32) (t : Int32) : Nat → Nat → Int32 := va_up (va_up B 1 (cPut 20 (B 1) t 0)) 2 (cPut 20 (B 2) t 0)
def bAddSub (B : Nat → Nat → Int32) (t s : Int32) : Nat → Nat → Int32 := va_up (va_up B 6 (cPut 60 (B 6) (t * 3 + bSubs B t) s)) 5 (cPut 20 (B 5) t (bSubs B t + 1))
def bCopy (B G : Nat → Nat → Int32) : Nat → Nat → Int32 := va_up (va_up (va_up (va_up (va_up (va_up (va_up (va_up B 1 (cCopy 20 (G 1) (B 1))) 2 (cCopy 20 (G 2) (B 2))) 3 (cCopy 100 (G 3) (B 3))) 4 (cCopy 100 (G 4) (B 4))) 5 (cCopy 20 (G 5) (B 5))) 6 (cCopy 60 (G 6) (B 6))) 7 (cCopy 20 (G 7) (B 7))) 8 (cCopy 20 (G 8) (B 8))
/-- a reader's cells -/
def zRd (sh : zSh) (P : Nat → Nat → Option Nat) (r : Nat) : Prop := sh r = some (.inl 2) ∧ (P r 0 = some (r + 1) ∧ P r 1 = some (r + 2)) ∧ sh (r + 1) = some (.inr (0, 5)) ∧ sh (r + 2) = some (.inr (0, 5))
def bLayS (R : Nat → Nat → Int32) (k : Nat) (B : Nat → Nat → Int32) : Nat → Nat → Int32 := va_up (va_up B 3 (cPut 100 (B 3) (R 0 2 * 5 + nI k) (cAt 5 (R 1) (nI k)))) 4 (cPut 100 (B 4) (R 0 2 * 5 + nI k) (cAt 5 (R 2) (nI k)))
def bLay (B R : Nat → Nat → Int32) : Nat → Nat → Int32 := it (bLayS R) 5 (va_up (va_up B 1 (cPut 20 (B 1) (R 0 2) (R 0 3))) 2 (cPut 20 (B 2) (R 0 2) (R 0 4)))
def bRemS (t : Int32) (k : Int32) (j : Nat) (B : Nat → Nat → Int32) : Nat → Nat → Int32 := va_up B 6 (cPut 60 (B 6) (t * 3 + (k + nI j)) (bSub B t (k + nI (j + 1))))
def bRem (B : Nat → Nat → Int32) (t k : Int32) : Nat → Nat → Int32 :=
  let C := it (bRemS t k) (bSubs B t - 1 - k).toNatClampNeg B
  va_up C 5 (cPut 20 (C 5) t (bSubs B t - 1))
def frRank (B : Nat → Nat → Int32) (i : Nat) : Int32 := if bMade B (nI i) = 0 then 0 else 1 + bGri B (bNeeds B (nI i))
def frStep (B : Nat → Nat → Int32) (i : Nat) (s : (Nat → Int32) × Int32 × Bool) : (Nat → Int32) × Int32 × Bool :=
  if s.2.2 = true then s else if frRank (va_up B 8 s.1) i ≤ 8 then (if frRank (va_up B 8 s.1) i = cAt 20 s.1 (nI i) then s else (cPut 20 s.1 (nI i) (frRank (va_up B 8 s.1) i), 1, false)) else (s.1, s.2.1, true)
def frRound (B : Nat → Nat → Int32) (_ : Nat) (s : (Nat → Int32) × Option Bool) : (Nat → Int32) × Option Bool :=
  match s.2 with
  | some _ => s
  | none =>
    if (it (frStep B) 20 (s.1, 0, false)).2.2 = true then ((it (frStep B) 20 (s.1, 0, false)).1, some false)
    else if (it (frStep B) 20 (s.1, 0, false)).2.1 = 0 then ((it (frStep B) 20 (s.1, 0, false)).1, some true)
    else ((it (frStep B) 20 (s.1, 0, false)).1, none)
def bFind (B : Nat → Nat → Int32) : (Nat → Int32) × Option Bool := it (frRound B) 10 (cFill 20 0 (B 8), none)
def bFindOk (B : Nat → Nat → Int32) : Int32 := if (bFind B).2 = some true then 1 else 0
theorem frStep_stick (B : Nat → Nat → Int32) (i : Nat) (s : (Nat → Int32) × Int32 × Bool) (h : s.2.2 = true) : frStep B i s = s := by
  unfold frStep
  rw [if_pos h]
theorem frRound_stick (B : Nat → Nat → Int32) (i : Nat) (s : (Nat → Int32) × Option Bool) (h : s.2 ≠ none) : frRound B i s = s := by
  unfold frRound
  split
  · rfl
  · rename_i h2
    exact absurd h2 h

abbrev mJ7_fill_53178 : ZM := (cJ7_fill_53178, RJ7, wsJ7_fill_53178, 1, 0, 0, none, 4, yJ7_fill_53178.name)
set_option maxHeartbeats 1000000 in
set_option maxRecDepth 100000 in
theorem c_J7_fill_53178 {sh : zSh} {F : Nat → Nat → Int32} {P : Nat → Nat → Option Nat} {a n : Nat} {v : Int32} (ha : sh a = some (.inr (0, n))) (hn : n < 2 ^ 31) : zMet yJ7_fill_53178 wsJ7_fill_53178 (1) (0) (0) [.ref a, .int v] sh F P (none) sh (va_up F a (cFill n v (F a))) P := by
  refine zMet.of (by decide) rfl (Nat.le_of_ble_eq_true rfl) (by simp [Value.category]) ?_
  intro X ρ
  show AW mJ7_fill_53178 X (zMQ mJ7_fill_53178 X (none) sh (va_up F a (cFill n v (F a))) P) 0 [some (.ref a), some (.int v), none, none] [] ρ sh F P 0 0
  have L5 : ∀ (m i : Nat), i ≤ n → n - i = m → AW mJ7_fill_53178 X (zMQ mJ7_fill_53178 X (none) sh (va_up F a (cFill n v (F a))) P) 5 [some (.ref a), some (.int v), some (.int (nI i)), some (.int (nI n))] [] ρ sh (va_up F a (cFill i v (F a))) P 0 0 := by
    intro m
    induction m using Nat.strongRecOn with
    | _ m ih =>
    intro i hi hm
    refine aw_iload_2 dJ7_fill_53178_5 ?_
    refine aw_iload_3 dJ7_fill_53178_6 ?_
    refine aw_icmp_ge (tgt := 20) dJ7_fill_53178_7 (by decide) (fun c7 => ?_) (fun c7 => ?_)
    · exact aw_return rfl dJ7_fill_53178_20 ⟨Nat.zero_le _, Nat.zero_le _⟩ rfl rfl (by rw [zend hi hn c7]) rfl
    · have hlt : i < n := zlt hi hn c7
      refine aw_aload_0 dJ7_fill_53178_10 ?_
      refine aw_iload_2 dJ7_fill_53178_11 ?_
      refine aw_iload_1 dJ7_fill_53178_12 ?_
      refine aw_iastore (by assumption) (vp_in_nI hlt hn) dJ7_fill_53178_13 ?_
      refine aw_iinc_2 (v := 1) (by decide) dJ7_fill_53178_14 ?_
      refine aw_goto (tgt := 5) dJ7_fill_53178_17 (by decide) ?_
      rw [nI_1]
      refine aw_cF ?_ (ih (n - (i + 1)) (by omega) (i + 1) (by omega) rfl)
      rw [zu_up, nI_clamp (by omega)]
      funext j
      by_cases hj : j = a
      · subst hj
        simp only [va_up, if_pos]
        funext q
        simp only [upd, cFill]
        by_cases hq : q = i
        · subst hq
          simp
        · have : (q < i + 1) = (q < i) := by simp; omega
          simp only [this, if_neg hq]
      · simp [va_up, hj]
  refine aw_iconst (v := 0) dJ7_fill_53178_0 (by decide) ?_
  refine aw_istore_2 dJ7_fill_53178_1 ?_
  refine aw_aload_0 dJ7_fill_53178_2 ?_
  refine aw_alen (t := 0) (v := nI _) (by decide) (by assumption) rfl dJ7_fill_53178_3 ?_
  refine aw_istore_3 dJ7_fill_53178_4 ?_
  exact aw_cF (by rw [show cFill 0 v (F a) = F a from rfl, va_up_same]) (L5 _ 0 (Nat.zero_le _) rfl)

abbrev mX0_setVessel : ZM := (cX0_setVessel, RX0, wsX0_setVessel, 2, 0, 0, none, 3, yX0_setVessel.name)
set_option maxHeartbeats 1000000 in
set_option maxRecDepth 100000 in
theorem c_X0_setVessel {sh : zSh} {F : Nat → Nat → Int32} {P : Nat → Nat → Option Nat} {β : Nat} {t u : Int32} (hB : zBk sh P β) : zMet yX0_setVessel wsX0_setVessel (2) (0) (0) [.ref β, .int t, .int u] sh F P (none) sh (va_up F (β + 7) (cPut 20 (F (β + 7)) t u)) P := by
  refine zMet.of (by decide) rfl (Nat.le_of_ble_eq_true rfl) (by simp [Value.category]) ?_
  intro X ρ
  show AW mX0_setVessel X (zMQ mX0_setVessel X (none) sh (va_up F (β + 7) (cPut 20 (F (β + 7)) t u)) P) 0 [some (.ref β), some (.int t), some (.int u)] [] ρ sh F P 0 0
  have hinX0 : ∀ w ∈ u_ws RX0 TX0 8, w ∈ wsX0_setVessel := by decide +kernel
  obtain ⟨hs, ⟨p0, p1, p2, p3, p4, p5, p6, p7⟩, s1, s2, s3, s4, s5, s6, s7, s8⟩ := id hB
  refine aw_aload_0 dX0_setVessel_0 ?_
  refine aw_getR fX0_6 (fun _ _ => rfl) (by assumption) hinX0 (by decide +kernel) (by assumption) dX0_setVessel_1 ?_
  refine aw_iload_1 dX0_setVessel_4 ?_
  refine aw_iload_2 dX0_setVessel_5 ?_
  refine aw_runv (zRun_SN (qn := 8) (c_X6_put (by assumption) (by decide)) gX0_setVessel_X6_put_n82 rfl (by decide +kernel) (by decide +kernel) q_X6_put (by decide) rfl rfl (Nat.le_of_ble_eq_true rfl) dX0_setVessel_6 ⟨Nat.le_refl _, Nat.le_refl _⟩) ?_
  exact aw_return rfl dX0_setVessel_9 ⟨Nat.zero_le _, Nat.zero_le _⟩ rfl rfl rfl rfl

abbrev mX0_strike : ZM := (cX0_strike, RX0, wsX0_strike, 2, 0, 0, none, 2, yX0_strike.name)
set_option maxHeartbeats 1000000 in
set_option maxRecDepth 100000 in
theorem c_X0_strike {sh : zSh} {F : Nat → Nat → Int32} {P : Nat → Nat → Option Nat} {β : Nat} {t : Int32} (hB : zBk sh P β) : zMet yX0_strike wsX0_strike (2) (0) (0) [.ref β, .int t] sh F P (none) sh (zput F β 9 (bStrike (zsub F β) t)) P := by
  refine zMet.of (by decide) rfl (Nat.le_of_ble_eq_true rfl) (by simp [Value.category]) ?_
  intro X ρ
  show AW mX0_strike X (zMQ mX0_strike X (none) sh (zput F β 9 (bStrike (zsub F β) t)) P) 0 [some (.ref β), some (.int t)] [] ρ sh F P 0 0
  have hinX0 : ∀ w ∈ u_ws RX0 TX0 8, w ∈ wsX0_strike := by decide +kernel
  obtain ⟨hs, ⟨p0, p1, p2, p3, p4, p5, p6, p7⟩, s1, s2, s3, s4, s5, s6, s7, s8⟩ := id hB
  refine aw_aload_0 dX0_strike_0 ?_
  refine aw_getR fX0_0 (fun _ _ => rfl) (by assumption) hinX0 (by decide +kernel) (by assumption) dX0_strike_1 ?_
  refine aw_iload_1 dX0_strike_4 ?_
  refine aw_iconst (v := 0) dX0_strike_5 (by decide) ?_
  refine aw_runv (zRun_SN (qn := 8) (c_X6_put (by assumption) (by decide)) gX0_strike_X6_put_n82 rfl (by decide +kernel) (by decide +kernel) q_X6_put (by decide) rfl rfl (Nat.le_of_ble_eq_true rfl) dX0_strike_6 ⟨Nat.le_refl _, Nat.le_refl _⟩) ?_
  refine aw_aload_0 dX0_strike_9 ?_
  refine aw_getR fX0_1 (fun _ _ => rfl) (by assumption) hinX0 (by decide +kernel) (by assumption) dX0_strike_10 ?_
  refine aw_iload_1 dX0_strike_13 ?_
  refine aw_iconst (v := 0) dX0_strike_14 (by decide) ?_
  refine aw_runv (zRun_SN (qn := 8) (c_X6_put (by assumption) (by decide)) gX0_strike_X6_put_n82 rfl (by decide +kernel) (by decide +kernel) q_X6_put (by decide) rfl rfl (Nat.le_of_ble_eq_true rfl) dX0_strike_15 ⟨Nat.le_refl _, Nat.le_refl _⟩) ?_
  exact aw_return rfl dX0_strike_18 ⟨Nat.zero_le _, Nat.zero_le _⟩ rfl rfl (by unfold bStrike; simp (disch := omega) only [zup_ne, zup_eq, zput_up, zput_id, zput_at, zput_ne, zsub_up]; rfl) rfl

abbrev mX0_addSubstitute : ZM := (cX0_addSubstitute, RX0, wsX0_addSubstitute, 3, 0, 0, none, 4, yX0_addSubstitute.name)
set_option maxHeartbeats 1000000 in
set_option maxRecDepth 100000 in
theorem c_X0_addSubstitute {sh : zSh} {F : Nat → Nat → Int32} {P : Nat → Nat → Option Nat} {β : Nat} {t u : Int32} (hB : zBk sh P β) : zMet yX0_addSubstitute wsX0_addSubstitute (3) (0) (0) [.ref β, .int t, .int u] sh F P (none) sh (zput F β 9 (bAddSub (zsub F β) t u)) P := by
  refine zMet.of (by decide) rfl (Nat.le_of_ble_eq_true rfl) (by simp [Value.category]) ?_
  intro X ρ
  show AW mX0_addSubstitute X (zMQ mX0_addSubstitute X (none) sh (zput F β 9 (bAddSub (zsub F β) t u)) P) 0 [some (.ref β), some (.int t), some (.int u), none] [] ρ sh F P 0 0
  have hinX0 : ∀ w ∈ u_ws RX0 TX0 8, w ∈ wsX0_addSubstitute := by decide +kernel
  obtain ⟨hs, ⟨p0, p1, p2, p3, p4, p5, p6, p7⟩, s1, s2, s3, s4, s5, s6, s7, s8⟩ := id hB
  refine aw_aload_0 dX0_addSubstitute_0 ?_
  refine aw_iload_1 dX0_addSubstitute_1 ?_
  refine aw_run (zRun_V (c_X0_substitutesOf (by assumption)) gX0_addSubstitute_X0_substitutesOf q_X0_substitutesOf rfl (by decide) rfl (by assumption) rfl rfl (Nat.le_of_ble_eq_true rfl) dX0_addSubstitute_2 ⟨Nat.le_refl _, Nat.le_refl _⟩) ?_
  refine aw_istore_3 dX0_addSubstitute_5 ?_
  refine aw_aload_0 dX0_addSubstitute_6 ?_
  refine aw_getR fX0_5 (fun _ _ => rfl) (by assumption) hinX0 (by decide +kernel) (by assumption) dX0_addSubstitute_7 ?_
  refine aw_iload_1 dX0_addSubstitute_10 ?_
  refine aw_iconst (v := 3) dX0_addSubstitute_11 (by decide) ?_
  refine aw_imul dX0_addSubstitute_12 ?_
  refine aw_iload_3 dX0_addSubstitute_13 ?_
  refine aw_iadd dX0_addSubstitute_14 ?_
  refine aw_iload_2 dX0_addSubstitute_15 ?_
  refine aw_runv (zRun_SN (qn := 8) (c_X6_put (by assumption) (by decide)) gX0_addSubstitute_X6_put_n82 rfl (by decide +kernel) (by decide +kernel) q_X6_put (by decide) rfl rfl (Nat.le_of_ble_eq_true rfl) dX0_addSubstitute_16 ⟨Nat.le_refl _, Nat.le_refl _⟩) ?_
  refine aw_aload_0 dX0_addSubstitute_19 ?_
  refine aw_getR fX0_4 (fun _ _ => rfl) (by assumption) hinX0 (by decide +kernel) (by assumption) dX0_addSubstitute_20 ?_
  refine aw_iload_1 dX0_addSubstitute_23 ?_
  refine aw_iload_3 dX0_addSubstitute_24 ?_
  refine aw_iconst (v := 1) dX0_addSubstitute_25 (by decide) ?_
  refine aw_iadd dX0_addSubstitute_26 ?_
  refine aw_runv (zRun_SN (qn := 8) (c_X6_put (by assumption) (by decide)) gX0_addSubstitute_X6_put_n82 rfl (by decide +kernel) (by decide +kernel) q_X6_put (by decide) rfl rfl (Nat.le_of_ble_eq_true rfl) dX0_addSubstitute_27 ⟨Nat.le_refl _, Nat.le_refl _⟩) ?_
  exact aw_return rfl dX0_addSubstitute_30 ⟨Nat.zero_le _, Nat.zero_le _⟩ rfl rfl (by unfold bAddSub; simp (disch := omega) only [zup_ne, zup_eq, zput_up, zput_id, zput_at, zput_ne, zsub_up]; rfl) rfl

abbrev mX0_copyFrom : ZM := (cX0_copyFrom, RX0, wsX0_copyFrom, 3, 0, 0, none, 2, yX0_copyFrom.name)
set_option maxHeartbeats 1000000 in
set_option maxRecDepth 100000 in
theorem c_X0_copyFrom {sh : zSh} {F : Nat → Nat → Int32} {P : Nat → Nat → Option Nat} {β : Nat} {γ : Nat} (hB : zBk sh P β) (hG : zBk sh P γ) (hd : β + 9 ≤ γ ∨ γ + 9 ≤ β) : zMet yX0_copyFrom wsX0_copyFrom (3) (0) (0) [.ref β, .ref γ] sh F P (none) sh (zput F β 9 (bCopy (zsub F β) (zsub F γ))) P := by
  refine zMet.of (by decide) rfl (Nat.le_of_ble_eq_true rfl) (by simp [Value.category]) ?_
  intro X ρ
  show AW mX0_copyFrom X (zMQ mX0_copyFrom X (none) sh (zput F β 9 (bCopy (zsub F β) (zsub F γ))) P) 0 [some (.ref β), some (.ref γ)] [] ρ sh F P 0 0
  have hinX0 : ∀ w ∈ u_ws RX0 TX0 8, w ∈ wsX0_copyFrom := by decide +kernel
  obtain ⟨hs, ⟨p0, p1, p2, p3, p4, p5, p6, p7⟩, s1, s2, s3, s4, s5, s6, s7, s8⟩ := id hB
  obtain ⟨ht, ⟨r0, r1, r2, r3, r4, r5, r6, r7⟩, t1, t2, t3, t4, t5, t6, t7, t8⟩ := id hG
  refine aw_aload_1 dX0_copyFrom_0 ?_
  refine aw_getR fX0_0 (fun _ _ => rfl) (by assumption) hinX0 (by decide +kernel) (by assumption) dX0_copyFrom_1 ?_
  refine aw_aload_0 dX0_copyFrom_4 ?_
  refine aw_getR fX0_0 (fun _ _ => rfl) (by assumption) hinX0 (by decide +kernel) (by assumption) dX0_copyFrom_5 ?_
  refine aw_runv (zRun_SN (qn := 6) (c_X6_copy (by assumption) (by assumption) (by decide)) gX0_copyFrom_X6_copy_n42 rfl (by decide +kernel) (by decide +kernel) q_X6_copy (by decide) rfl rfl (Nat.le_of_ble_eq_true rfl) dX0_copyFrom_8 ⟨Nat.le_refl _, Nat.le_refl _⟩) ?_
  refine aw_aload_1 dX0_copyFrom_11 ?_
  refine aw_getR fX0_1 (fun _ _ => rfl) (by assumption) hinX0 (by decide +kernel) (by assumption) dX0_copyFrom_12 ?_
  refine aw_aload_0 dX0_copyFrom_15 ?_
  refine aw_getR fX0_1 (fun _ _ => rfl) (by assumption) hinX0 (by decide +kernel) (by assumption) dX0_copyFrom_16 ?_
  refine aw_runv (zRun_SN (qn := 6) (c_X6_copy (by assumption) (by assumption) (by decide)) gX0_copyFrom_X6_copy_n42 rfl (by decide +kernel) (by decide +kernel) q_X6_copy (by decide) rfl rfl (Nat.le_of_ble_eq_true rfl) dX0_copyFrom_19 ⟨Nat.le_refl _, Nat.le_refl _⟩) ?_
  refine aw_aload_1 dX0_copyFrom_22 ?_
  refine aw_getR fX0_2 (fun _ _ => rfl) (by assumption) hinX0 (by decide +kernel) (by assumption) dX0_copyFrom_23 ?_
  refine aw_aload_0 dX0_copyFrom_26 ?_
  refine aw_getR fX0_2 (fun _ _ => rfl) (by assumption) hinX0 (by decide +kernel) (by assumption) dX0_copyFrom_27 ?_
  refine aw_runv (zRun_SN (qn := 6) (c_X6_copy (by assumption) (by assumption) (by decide)) gX0_copyFrom_X6_copy_n42 rfl (by decide +kernel) (by decide +kernel) q_X6_copy (by decide) rfl rfl (Nat.le_of_ble_eq_true rfl) dX0_copyFrom_30 ⟨Nat.le_refl _, Nat.le_refl _⟩) ?_
  refine aw_aload_1 dX0_copyFrom_33 ?_
  refine aw_getR fX0_3 (fun _ _ => rfl) (by assumption) hinX0 (by decide +kernel) (by assumption) dX0_copyFrom_34 ?_
  refine aw_aload_0 dX0_copyFrom_37 ?_
  refine aw_getR fX0_3 (fun _ _ => rfl) (by assumption) hinX0 (by decide +kernel) (by assumption) dX0_copyFrom_38 ?_
  refine aw_runv (zRun_SN (qn := 6) (c_X6_copy (by assumption) (by assumption) (by decide)) gX0_copyFrom_X6_copy_n42 rfl (by decide +kernel) (by decide +kernel) q_X6_copy (by decide) rfl rfl (Nat.le_of_ble_eq_true rfl) dX0_copyFrom_41 ⟨Nat.le_refl _, Nat.le_refl _⟩) ?_
  refine aw_aload_1 dX0_copyFrom_44 ?_
  refine aw_getR fX0_4 (fun _ _ => rfl) (by assumption) hinX0 (by decide +kernel) (by assumption) dX0_copyFrom_45 ?_
  refine aw_aload_0 dX0_copyFrom_48 ?_
  refine aw_getR fX0_4 (fun _ _ => rfl) (by assumption) hinX0 (by decide +kernel) (by assumption) dX0_copyFrom_49 ?_
  refine aw_runv (zRun_SN (qn := 6) (c_X6_copy (by assumption) (by assumption) (by decide)) gX0_copyFrom_X6_copy_n42 rfl (by decide +kernel) (by decide +kernel) q_X6_copy (by decide) rfl rfl (Nat.le_of_ble_eq_true rfl) dX0_copyFrom_52 ⟨Nat.le_refl _, Nat.le_refl _⟩) ?_
  refine aw_aload_1 dX0_copyFrom_55 ?_
  refine aw_getR fX0_5 (fun _ _ => rfl) (by assumption) hinX0 (by decide +kernel) (by assumption) dX0_copyFrom_56 ?_
  refine aw_aload_0 dX0_copyFrom_59 ?_
  refine aw_getR fX0_5 (fun _ _ => rfl) (by assumption) hinX0 (by decide +kernel) (by assumption) dX0_copyFrom_60 ?_
  refine aw_runv (zRun_SN (qn := 6) (c_X6_copy (by assumption) (by assumption) (by decide)) gX0_copyFrom_X6_copy_n42 rfl (by decide +kernel) (by decide +kernel) q_X6_copy (by decide) rfl rfl (Nat.le_of_ble_eq_true rfl) dX0_copyFrom_63 ⟨Nat.le_refl _, Nat.le_refl _⟩) ?_
  refine aw_aload_1 dX0_copyFrom_66 ?_
  refine aw_getR fX0_6 (fun _ _ => rfl) (by assumption) hinX0 (by decide +kernel) (by assumption) dX0_copyFrom_67 ?_
  refine aw_aload_0 dX0_copyFrom_70 ?_
  refine aw_getR fX0_6 (fun _ _ => rfl) (by assumption) hinX0 (by decide +kernel) (by assumption) dX0_copyFrom_71 ?_
  refine aw_runv (zRun_SN (qn := 6) (c_X6_copy (by assumption) (by assumption) (by decide)) gX0_copyFrom_X6_copy_n42 rfl (by decide +kernel) (by decide +kernel) q_X6_copy (by decide) rfl rfl (Nat.le_of_ble_eq_true rfl) dX0_copyFrom_74 ⟨Nat.le_refl _, Nat.le_refl _⟩) ?_
  refine aw_aload_1 dX0_copyFrom_77 ?_
  refine aw_getR fX0_7 (fun _ _ => rfl) (by assumption) hinX0 (by decide +kernel) (by assumption) dX0_copyFrom_78 ?_
  refine aw_aload_0 dX0_copyFrom_81 ?_
  refine aw_getR fX0_7 (fun _ _ => rfl) (by assumption) hinX0 (by decide +kernel) (by assumption) dX0_copyFrom_82 ?_
  refine aw_runv (zRun_SN (qn := 6) (c_X6_copy (by assumption) (by assumption) (by decide)) gX0_copyFrom_X6_copy_n42 rfl (by decide +kernel) (by decide +kernel) q_X6_copy (by decide) rfl rfl (Nat.le_of_ble_eq_true rfl) dX0_copyFrom_85 ⟨Nat.le_refl _, Nat.le_refl _⟩) ?_
  exact aw_return rfl dX0_copyFrom_88 ⟨Nat.zero_le _, Nat.zero_le _⟩ rfl rfl (by unfold bCopy; simp (disch := omega) only [zup_ne, zup_eq, zput_up, zput_id, zput_at, zput_ne, zsub_up]; rfl) rfl

abbrev mX0_lay : ZM := (cX0_lay, RX0, wsX0_lay, 2, 0, 0, none, 4, yX0_lay.name)
set_option maxHeartbeats 1000000 in
set_option maxRecDepth 100000 in
theorem c_X0_lay {sh : zSh} {F : Nat → Nat → Int32} {P : Nat → Nat → Option Nat} {β : Nat} {r : Nat} (hB : zBk sh P β) (hR : zRd sh P r) (hd : β + 9 ≤ r ∨ r + 3 ≤ β) : zMet yX0_lay wsX0_lay (2) (0) (0) [.ref β, .ref r] sh F P (none) sh (zput F β 9 (bLay (zsub F β) (zsub F r))) P := by
  refine zMet.of (by decide) rfl (Nat.le_of_ble_eq_true rfl) (by simp [Value.category]) ?_
  intro X ρ
  show AW mX0_lay X (zMQ mX0_lay X (none) sh (zput F β 9 (bLay (zsub F β) (zsub F r))) P) 0 [some (.ref β), some (.ref r), none, none] [] ρ sh F P 0 0
  have hinX0 : ∀ w ∈ u_ws RX0 TX0 8, w ∈ wsX0_lay := by decide +kernel
  have hinX2 : ∀ w ∈ u_ws RX2 TX2 8, w ∈ wsX0_lay := by decide +kernel
  obtain ⟨hs, ⟨p0, p1, p2, p3, p4, p5, p6, p7⟩, s1, s2, s3, s4, s5, s6, s7, s8⟩ := id hB
  obtain ⟨rs, ⟨r0, r1⟩, u1, u2⟩ := id hR
  have L39 : ∀ (m i : Nat), i ≤ 5 → 5 - i = m → AW mX0_lay X (zMQ mX0_lay X (none) sh (zput F β 9 (bLay (zsub F β) (zsub F r))) P) 39 [some (.ref β), some (.ref r), some (.int (F r 2 * 5)), some (.int (nI i))] [] ρ sh (zput F β 9 (it (bLayS (zsub F r)) i (va_up (va_up (zsub F β) 1 (cPut 20 (zsub F β 1) (zsub F r 0 2) (zsub F r 0 3))) 2 (cPut 20 (zsub F β 2) (zsub F r 0 2) (zsub F r 0 4))))) P 0 0 := by
    intro m
    induction m using Nat.strongRecOn with
    | _ m ih =>
    intro i hi hm
    refine aw_iload_3 dX0_lay_39 ?_
    refine aw_iconst (v := 5) dX0_lay_40 (by decide) ?_
    refine aw_icmp_ge (tgt := 86) dX0_lay_41 (by decide) (fun c41 => ?_) (fun c41 => ?_)
    · exact aw_return rfl dX0_lay_86 ⟨Nat.zero_le _, Nat.zero_le _⟩ rfl rfl (by rw [zend (n := 5) hi (by decide) c41]; rfl) rfl
    · have hlt : i < 5 := zlt (n := 5) hi (by decide) c41
      refine aw_aload_0 dX0_lay_44 ?_
      refine aw_getR fX0_2 (fun _ _ => rfl) (by assumption) hinX0 (by decide +kernel) (by assumption) dX0_lay_45 ?_
      refine aw_iload_2 dX0_lay_48 ?_
      refine aw_iload_3 dX0_lay_49 ?_
      refine aw_iadd dX0_lay_50 ?_
      refine aw_aload_1 dX0_lay_51 ?_
      refine aw_getRN (q := 14) fX2_0 (fun _ _ => rfl) (by assumption) hinX2 rfl (by assumption) dX0_lay_52 ?_
      refine aw_iload_3 dX0_lay_55 ?_
      refine aw_run (zRun_SN (qn := 7) (c_X6_at (by assumption) (by decide)) gX0_lay_X6_at_n46 rfl (by decide +kernel) (by decide +kernel) q_X6_at (by decide) rfl rfl (Nat.le_of_ble_eq_true rfl) dX0_lay_56 ⟨Nat.le_refl _, Nat.le_refl _⟩) ?_
      refine aw_runv (zRun_SN (qn := 8) (c_X6_put (by assumption) (by decide)) gX0_lay_X6_put_n82 rfl (by decide +kernel) (by decide +kernel) q_X6_put (by decide) rfl rfl (Nat.le_of_ble_eq_true rfl) dX0_lay_59 ⟨Nat.le_refl _, Nat.le_refl _⟩) ?_
      refine aw_aload_0 dX0_lay_62 ?_
      refine aw_getR fX0_3 (fun _ _ => rfl) (by assumption) hinX0 (by decide +kernel) (by assumption) dX0_lay_63 ?_
      refine aw_iload_2 dX0_lay_66 ?_
      refine aw_iload_3 dX0_lay_67 ?_
      refine aw_iadd dX0_lay_68 ?_
      refine aw_aload_1 dX0_lay_69 ?_
      refine aw_getRN (q := 15) fX2_1 (fun _ _ => rfl) (by assumption) hinX2 rfl (by assumption) dX0_lay_70 ?_
      refine aw_iload_3 dX0_lay_73 ?_
      refine aw_run (zRun_SN (qn := 7) (c_X6_at (by assumption) (by decide)) gX0_lay_X6_at_n46 rfl (by decide +kernel) (by decide +kernel) q_X6_at (by decide) rfl rfl (Nat.le_of_ble_eq_true rfl) dX0_lay_74 ⟨Nat.le_refl _, Nat.le_refl _⟩) ?_
      refine aw_runv (zRun_SN (qn := 8) (c_X6_put (by assumption) (by decide)) gX0_lay_X6_put_n82 rfl (by decide +kernel) (by decide +kernel) q_X6_put (by decide) rfl rfl (Nat.le_of_ble_eq_true rfl) dX0_lay_77 ⟨Nat.le_refl _, Nat.le_refl _⟩) ?_
      refine aw_iinc_3 (v := 1) (by decide) dX0_lay_80 ?_
      refine aw_goto (tgt := 39) dX0_lay_83 (by decide) ?_
      rw [nI_1]
      refine aw_cF ?_ (ih (5 - (i + 1)) (by omega) (i + 1) (by omega) rfl)
      show _ = zput F β 9 (bLayS (zsub F r) i (it (bLayS (zsub F r)) i (va_up (va_up (zsub F β) 1 (cPut 20 (zsub F β 1) (zsub F r 0 2) (zsub F r 0 3))) 2 (cPut 20 (zsub F β 2) (zsub F r 0 2) (zsub F r 0 4)))))
      unfold bLayS
      simp (disch := omega) only [zup_ne, zup_eq, zput_up, zput_id, zput_at, zput_ne, zsub_up]
      rfl
  refine aw_aload_0 dX0_lay_0 ?_
  refine aw_getR fX0_0 (fun _ _ => rfl) (by assumption) hinX0 (by decide +kernel) (by assumption) dX0_lay_1 ?_
  refine aw_aload_1 dX0_lay_4 ?_
  refine aw_getIN (q := 11) fX2_2 hinX2 rfl (by assumption) dX0_lay_5 ?_
  refine aw_aload_1 dX0_lay_8 ?_
  refine aw_getIN (q := 12) fX2_3 hinX2 rfl (by assumption) dX0_lay_9 ?_
  refine aw_runv (zRun_SN (qn := 8) (c_X6_put (by assumption) (by decide)) gX0_lay_X6_put_n82 rfl (by decide +kernel) (by decide +kernel) q_X6_put (by decide) rfl rfl (Nat.le_of_ble_eq_true rfl) dX0_lay_12 ⟨Nat.le_refl _, Nat.le_refl _⟩) ?_
  refine aw_aload_0 dX0_lay_15 ?_
  refine aw_getR fX0_1 (fun _ _ => rfl) (by assumption) hinX0 (by decide +kernel) (by assumption) dX0_lay_16 ?_
  refine aw_aload_1 dX0_lay_19 ?_
  refine aw_getIN (q := 11) fX2_2 hinX2 rfl (by assumption) dX0_lay_20 ?_
  refine aw_aload_1 dX0_lay_23 ?_
  refine aw_getIN (q := 13) fX2_4 hinX2 rfl (by assumption) dX0_lay_24 ?_
  refine aw_runv (zRun_SN (qn := 8) (c_X6_put (by assumption) (by decide)) gX0_lay_X6_put_n82 rfl (by decide +kernel) (by decide +kernel) q_X6_put (by decide) rfl rfl (Nat.le_of_ble_eq_true rfl) dX0_lay_27 ⟨Nat.le_refl _, Nat.le_refl _⟩) ?_
  refine aw_aload_1 dX0_lay_30 ?_
  refine aw_getIN (q := 11) fX2_2 hinX2 rfl (by assumption) dX0_lay_31 ?_
  refine aw_iconst (v := 5) dX0_lay_34 (by decide) ?_
  refine aw_imul dX0_lay_35 ?_
  refine aw_istore_2 dX0_lay_36 ?_
  refine aw_iconst (v := 0) dX0_lay_37 (by decide) ?_
  refine aw_istore_3 dX0_lay_38 ?_
  rw [zup_ne (show r ≠ β + 2 by omega), zup_ne (show r ≠ β + 1 by omega)]
  refine aw_cF ?_ (L39 _ 0 (Nat.zero_le _) rfl)
  show _ = zput F β 9 (va_up (va_up (zsub F β) 1 (cPut 20 (zsub F β 1) (zsub F r 0 2) (zsub F r 0 3))) 2 (cPut 20 (zsub F β 2) (zsub F r 0 2) (zsub F r 0 4)))
  simp (disch := omega) only [zup_ne, zup_eq, zput_up, zput_id, zput_at, zput_ne, zsub_up]
  rfl

