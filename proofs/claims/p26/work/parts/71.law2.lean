/-! ===== 71.law2: change of the law ===== -/
theorem p_lrecipe {v : pV} {N : Nat} (h : pInv v N) (a b : Int32) : ∃ z v', pCall yL_recipe wsL_recipe 7 [.int a, .int b] v z v' ∧ pInv v' N := by
  obtain ⟨z, v', hc, hi⟩ := p_recipe (v := (v.1, v.2.1, (pRcT a b (pvT v)).1, (pRcT a b (pvT v)).2, v.2.2.2.2)) (N := N) h
  refine ⟨z, v', fun sh F P χ hL => ?_, hi⟩
  obtain ⟨hL1, hF1⟩ := a_fT hL (pRcT a b (pvT v))
  obtain ⟨mc, ms, sh', F', P', h1, h2, m, hL', hF⟩ := hc sh _ P χ hL1
  exact ⟨mc, ms, sh', F', P', h1, h2, c_L_recipe hL.1 (by rw [hL.2.2.2.2.1]; exact m), hL', hF1.trans hF⟩
def pTg (a : Int32) : Nat := pLw (a >>> ((5 : Int32) &&& 31)) 20
def pVsl (b : Int32) : Int32 := if nI (pLw b 4) = 0 then -9 else 12 + nI (pLw (b >>> ((2 : Int32) &&& 31)) 8)
def pBrg (b : Int32) : Int32 := if nI (pLw b 5) = 0 then - nI (pLw (b >>> ((3 : Int32) &&& 31)) 60) else nI (pLw (b >>> ((3 : Int32) &&& 31)) 60)
def pOff : Array Int := #[97, 97, 97, 97, 97, 104, 127, 127, 127, 146, 157, 157, 187, 187, 221, 221, 221, 242, 242, 263, 268]

abbrev mL_change (mc ms : Nat) : ZM := (cL_change, RL, wsL_change, 43, mc, ms, (some .int), 4, yL_change.name)
set_option maxHeartbeats 1000000 in
set_option maxRecDepth 100000 in
theorem c_L_change_recipe {sh : zSh} {F : Nat → Nat → Int32} {P : Nat → Nat → Option Nat} {sh' : zSh} {F' : Nat → Nat → Int32} {P' : Nat → Nat → Option Nat} {χ mc ms : Nat} {a b z0 : Int32} (hs : sh χ = some (.inl 6)) (hj : ¬ (nI (pLw a 22)).toInt < 0 ∧ ¬ 20 < (nI (pLw a 22)).toInt ∧ pOff[((nI (pLw a 22)).toInt - 0).toNat]? = some 97)  (hm : zMet yL_recipe wsL_recipe 7 mc ms [.ref χ, .int b, .int a] sh F P (some (.int z0)) sh' F' P') : zMet yL_change wsL_change (43) (mc) (ms) [.ref χ, .int a, .int b] sh F P (some (.int z0)) sh' F' P' := by
  refine zMet.of (by decide) rfl (Nat.le_of_ble_eq_true rfl) (by simp [Value.category]) ?_
  intro X ρ
  show AW (mL_change mc ms) X (zMQ (mL_change mc ms) X (some (.int z0)) sh' F' P') 0 [some (.ref χ), some (.int a), some (.int b), none] [] ρ sh F P 0 0
  refine aw_iload_1 dL_change_0 ?_
  refine aw_iconst (v := 5) dL_change_1 (by decide) ?_
  refine aw_ishr dL_change_2 ?_
  refine aw_bipush (v := 20) dL_change_3 (by decide) ?_
  refine aw_run (zRun_S (c_L_low (m := 20) (by decide) (by decide)) (Or.inl gL_change_L_low) q_L_low (by show _ < 43; decide) rfl rfl (Nat.le_of_ble_eq_true rfl) dL_change_5 ⟨Nat.zero_le _, Nat.zero_le _⟩) ?_
  refine aw_istore_3 dL_change_8 ?_
  refine aw_iload_1 dL_change_9 ?_
  refine aw_bipush (v := 22) dL_change_10 (by decide) ?_
  refine aw_run (zRun_S (c_L_low (m := 22) (by decide) (by decide)) (Or.inl gL_change_L_low) q_L_low (by show _ < 43; decide) rfl rfl (Nat.le_of_ble_eq_true rfl) dL_change_12 ⟨Nat.zero_le _, Nat.zero_le _⟩) ?_
  refine aw_tableIn (off := 97) (tgt := 112) dL_change_15 hj.1 hj.2.1 hj.2.2 (by decide) ?_
  refine aw_aload_0 dL_change_112 ?_
  refine aw_iload_2 dL_change_113 ?_
  refine aw_iload_1 dL_change_114 ?_
  refine aw_runA (zRun_S hm (Or.inl gL_change_L_recipe) q_L_recipe (by show _ < 43; decide) rfl rfl (Nat.le_of_ble_eq_true rfl) dL_change_115 ⟨Nat.le_of_eq (Nat.zero_add _), Nat.le_of_eq (Nat.zero_add _)⟩) ⟨fun j hj => by simp at hj; subst hj; exact Or.inl (by rw [hs]; exact Option.some_ne_none _), fun j hj => by cases hj⟩ (fun ρ => ?_)
  exact aw_ireturn rfl dL_change_118 ⟨Nat.le_of_eq (Nat.zero_add _), Nat.le_of_eq (Nat.zero_add _)⟩ rfl rfl rfl rfl

set_option maxHeartbeats 1000000 in
set_option maxRecDepth 100000 in
theorem c_L_change_forget {sh : zSh} {F : Nat → Nat → Int32} {P : Nat → Nat → Option Nat} {sh' : zSh} {F' : Nat → Nat → Int32} {P' : Nat → Nat → Option Nat} {χ mc ms : Nat} {a b z0 : Int32} (hs : sh χ = some (.inl 6)) (hj : ¬ (nI (pLw a 22)).toInt < 0 ∧ ¬ 20 < (nI (pLw a 22)).toInt ∧ pOff[((nI (pLw a 22)).toInt - 0).toNat]? = some 104) (h3 : nI (pLw b 3) = 0) (hm : zMet yX6_forget wsX6_forget 6 mc ms [.ref χ, .int (nI (pTg a))] sh F P (some (.int z0)) sh' F' P') : zMet yL_change wsL_change (43) (mc) (ms) [.ref χ, .int a, .int b] sh F P (some (.int z0)) sh' F' P' := by
  refine zMet.of (by decide) rfl (Nat.le_of_ble_eq_true rfl) (by simp [Value.category]) ?_
  intro X ρ
  show AW (mL_change mc ms) X (zMQ (mL_change mc ms) X (some (.int z0)) sh' F' P') 0 [some (.ref χ), some (.int a), some (.int b), none] [] ρ sh F P 0 0
  refine aw_iload_1 dL_change_0 ?_
  refine aw_iconst (v := 5) dL_change_1 (by decide) ?_
  refine aw_ishr dL_change_2 ?_
  refine aw_bipush (v := 20) dL_change_3 (by decide) ?_
  refine aw_run (zRun_S (c_L_low (m := 20) (by decide) (by decide)) (Or.inl gL_change_L_low) q_L_low (by show _ < 43; decide) rfl rfl (Nat.le_of_ble_eq_true rfl) dL_change_5 ⟨Nat.zero_le _, Nat.zero_le _⟩) ?_
  refine aw_istore_3 dL_change_8 ?_
  refine aw_iload_1 dL_change_9 ?_
  refine aw_bipush (v := 22) dL_change_10 (by decide) ?_
  refine aw_run (zRun_S (c_L_low (m := 22) (by decide) (by decide)) (Or.inl gL_change_L_low) q_L_low (by show _ < 43; decide) rfl rfl (Nat.le_of_ble_eq_true rfl) dL_change_12 ⟨Nat.zero_le _, Nat.zero_le _⟩) ?_
  refine aw_tableIn (off := 104) (tgt := 119) dL_change_15 hj.1 hj.2.1 hj.2.2 (by decide) ?_
  refine aw_iload_2 dL_change_119 ?_
  refine aw_iconst (v := 3) dL_change_120 (by decide) ?_
  refine aw_run (zRun_S (c_L_low (m := 3) (by decide) (by decide)) (Or.inl gL_change_L_low) q_L_low (by show _ < 43; decide) rfl rfl (Nat.le_of_ble_eq_true rfl) dL_change_121 ⟨Nat.zero_le _, Nat.zero_le _⟩) ?_
  refine aw_if_ne (tgt := 135) dL_change_124 (by decide) (fun c124 => absurd c124 (fun e => e h3)) (fun c124 => ?_)
  refine aw_aload_0 dL_change_127 ?_
  refine aw_iload_3 dL_change_128 ?_
  refine aw_runA (zRun_V hm gL_change_X6_forget q_X6_forget rfl (by show _ < 43; decide) rfl hs rfl rfl (Nat.le_of_ble_eq_true rfl) dL_change_129 ⟨Nat.le_of_eq (Nat.zero_add _), Nat.le_of_eq (Nat.zero_add _)⟩) ⟨fun j hj => by simp at hj; subst hj; exact Or.inl (by rw [hs]; exact Option.some_ne_none _), fun j hj => by cases hj⟩ (fun ρ => ?_)
  refine aw_goto (tgt := 141) dL_change_132 (by decide) ?_
  exact aw_ireturn rfl dL_change_141 ⟨Nat.le_of_eq (Nat.zero_add _), Nat.le_of_eq (Nat.zero_add _)⟩ rfl rfl rfl rfl

set_option maxHeartbeats 1000000 in
set_option maxRecDepth 100000 in
theorem c_L_change_recipe2 {sh : zSh} {F : Nat → Nat → Int32} {P : Nat → Nat → Option Nat} {sh' : zSh} {F' : Nat → Nat → Int32} {P' : Nat → Nat → Option Nat} {χ mc ms : Nat} {a b z0 : Int32} (hs : sh χ = some (.inl 6)) (hj : ¬ (nI (pLw a 22)).toInt < 0 ∧ ¬ 20 < (nI (pLw a 22)).toInt ∧ pOff[((nI (pLw a 22)).toInt - 0).toNat]? = some 104) (h3 : nI (pLw b 3) ≠ 0) (hm : zMet yL_recipe wsL_recipe 7 mc ms [.ref χ, .int b, .int a] sh F P (some (.int z0)) sh' F' P') : zMet yL_change wsL_change (43) (mc) (ms) [.ref χ, .int a, .int b] sh F P (some (.int z0)) sh' F' P' := by
  refine zMet.of (by decide) rfl (Nat.le_of_ble_eq_true rfl) (by simp [Value.category]) ?_
  intro X ρ
  show AW (mL_change mc ms) X (zMQ (mL_change mc ms) X (some (.int z0)) sh' F' P') 0 [some (.ref χ), some (.int a), some (.int b), none] [] ρ sh F P 0 0
  refine aw_iload_1 dL_change_0 ?_
  refine aw_iconst (v := 5) dL_change_1 (by decide) ?_
  refine aw_ishr dL_change_2 ?_
  refine aw_bipush (v := 20) dL_change_3 (by decide) ?_
  refine aw_run (zRun_S (c_L_low (m := 20) (by decide) (by decide)) (Or.inl gL_change_L_low) q_L_low (by show _ < 43; decide) rfl rfl (Nat.le_of_ble_eq_true rfl) dL_change_5 ⟨Nat.zero_le _, Nat.zero_le _⟩) ?_
  refine aw_istore_3 dL_change_8 ?_
  refine aw_iload_1 dL_change_9 ?_
  refine aw_bipush (v := 22) dL_change_10 (by decide) ?_
  refine aw_run (zRun_S (c_L_low (m := 22) (by decide) (by decide)) (Or.inl gL_change_L_low) q_L_low (by show _ < 43; decide) rfl rfl (Nat.le_of_ble_eq_true rfl) dL_change_12 ⟨Nat.zero_le _, Nat.zero_le _⟩) ?_
  refine aw_tableIn (off := 104) (tgt := 119) dL_change_15 hj.1 hj.2.1 hj.2.2 (by decide) ?_
  refine aw_iload_2 dL_change_119 ?_
  refine aw_iconst (v := 3) dL_change_120 (by decide) ?_
  refine aw_run (zRun_S (c_L_low (m := 3) (by decide) (by decide)) (Or.inl gL_change_L_low) q_L_low (by show _ < 43; decide) rfl rfl (Nat.le_of_ble_eq_true rfl) dL_change_121 ⟨Nat.zero_le _, Nat.zero_le _⟩) ?_
  refine aw_if_ne (tgt := 135) dL_change_124 (by decide) (fun c124 => ?_) (fun c124 => absurd c124 h3)
  refine aw_aload_0 dL_change_135 ?_
  refine aw_iload_2 dL_change_136 ?_
  refine aw_iload_1 dL_change_137 ?_
  refine aw_runA (zRun_S hm (Or.inl gL_change_L_recipe) q_L_recipe (by show _ < 43; decide) rfl rfl (Nat.le_of_ble_eq_true rfl) dL_change_138 ⟨Nat.le_of_eq (Nat.zero_add _), Nat.le_of_eq (Nat.zero_add _)⟩) ⟨fun j hj => by simp at hj; subst hj; exact Or.inl (by rw [hs]; exact Option.some_ne_none _), fun j hj => by cases hj⟩ (fun ρ => ?_)
  exact aw_ireturn rfl dL_change_141 ⟨Nat.le_of_eq (Nat.zero_add _), Nat.le_of_eq (Nat.zero_add _)⟩ rfl rfl rfl rfl

set_option maxHeartbeats 1000000 in
set_option maxRecDepth 100000 in
theorem c_L_change_allow {sh : zSh} {F : Nat → Nat → Int32} {P : Nat → Nat → Option Nat} {sh' : zSh} {F' : Nat → Nat → Int32} {P' : Nat → Nat → Option Nat} {χ mc ms : Nat} {a b z0 : Int32} (hs : sh χ = some (.inl 6)) (hj : ¬ (nI (pLw a 22)).toInt < 0 ∧ ¬ 20 < (nI (pLw a 22)).toInt ∧ pOff[((nI (pLw a 22)).toInt - 0).toNat]? = some 127)  (hm : zMet yX6_allow wsX6_allow 6 mc ms [.ref χ, .int (nI (pLw b 12)), .int (nI (pLw (b >>> ((4 : Int32) &&& 31)) 20))] sh F P (some (.int z0)) sh' F' P') : zMet yL_change wsL_change (43) (mc) (ms) [.ref χ, .int a, .int b] sh F P (some (.int z0)) sh' F' P' := by
  refine zMet.of (by decide) rfl (Nat.le_of_ble_eq_true rfl) (by simp [Value.category]) ?_
  intro X ρ
  show AW (mL_change mc ms) X (zMQ (mL_change mc ms) X (some (.int z0)) sh' F' P') 0 [some (.ref χ), some (.int a), some (.int b), none] [] ρ sh F P 0 0
  refine aw_iload_1 dL_change_0 ?_
  refine aw_iconst (v := 5) dL_change_1 (by decide) ?_
  refine aw_ishr dL_change_2 ?_
  refine aw_bipush (v := 20) dL_change_3 (by decide) ?_
  refine aw_run (zRun_S (c_L_low (m := 20) (by decide) (by decide)) (Or.inl gL_change_L_low) q_L_low (by show _ < 43; decide) rfl rfl (Nat.le_of_ble_eq_true rfl) dL_change_5 ⟨Nat.zero_le _, Nat.zero_le _⟩) ?_
  refine aw_istore_3 dL_change_8 ?_
  refine aw_iload_1 dL_change_9 ?_
  refine aw_bipush (v := 22) dL_change_10 (by decide) ?_
  refine aw_run (zRun_S (c_L_low (m := 22) (by decide) (by decide)) (Or.inl gL_change_L_low) q_L_low (by show _ < 43; decide) rfl rfl (Nat.le_of_ble_eq_true rfl) dL_change_12 ⟨Nat.zero_le _, Nat.zero_le _⟩) ?_
  refine aw_tableIn (off := 127) (tgt := 142) dL_change_15 hj.1 hj.2.1 hj.2.2 (by decide) ?_
  refine aw_aload_0 dL_change_142 ?_
  refine aw_iload_2 dL_change_143 ?_
  refine aw_bipush (v := 12) dL_change_144 (by decide) ?_
  refine aw_run (zRun_S (c_L_low (m := 12) (by decide) (by decide)) (Or.inl gL_change_L_low) q_L_low (by show _ < 43; decide) rfl rfl (Nat.le_of_ble_eq_true rfl) dL_change_146 ⟨Nat.zero_le _, Nat.zero_le _⟩) ?_
  refine aw_iload_2 dL_change_149 ?_
  refine aw_iconst (v := 4) dL_change_150 (by decide) ?_
  refine aw_ishr dL_change_151 ?_
  refine aw_bipush (v := 20) dL_change_152 (by decide) ?_
  refine aw_run (zRun_S (c_L_low (m := 20) (by decide) (by decide)) (Or.inl gL_change_L_low) q_L_low (by show _ < 43; decide) rfl rfl (Nat.le_of_ble_eq_true rfl) dL_change_154 ⟨Nat.zero_le _, Nat.zero_le _⟩) ?_
  refine aw_runA (zRun_V hm gL_change_X6_allow q_X6_allow rfl (by show _ < 43; decide) rfl hs rfl rfl (Nat.le_of_ble_eq_true rfl) dL_change_157 ⟨Nat.le_of_eq (Nat.zero_add _), Nat.le_of_eq (Nat.zero_add _)⟩) ⟨fun j hj => by simp at hj; subst hj; exact Or.inl (by rw [hs]; exact Option.some_ne_none _), fun j hj => by cases hj⟩ (fun ρ => ?_)
  exact aw_ireturn rfl dL_change_160 ⟨Nat.le_of_eq (Nat.zero_add _), Nat.le_of_eq (Nat.zero_add _)⟩ rfl rfl rfl rfl

set_option maxHeartbeats 1000000 in
set_option maxRecDepth 100000 in
theorem c_L_change_forbid {sh : zSh} {F : Nat → Nat → Int32} {P : Nat → Nat → Option Nat} {sh' : zSh} {F' : Nat → Nat → Int32} {P' : Nat → Nat → Option Nat} {χ mc ms : Nat} {a b z0 : Int32} (hs : sh χ = some (.inl 6)) (hj : ¬ (nI (pLw a 22)).toInt < 0 ∧ ¬ 20 < (nI (pLw a 22)).toInt ∧ pOff[((nI (pLw a 22)).toInt - 0).toNat]? = some 146)  (hm : zMet yX6_forbid wsX6_forbid 6 mc ms [.ref χ, .int (nI (pTg a)), .int (nI (pLw b 3))] sh F P (some (.int z0)) sh' F' P') : zMet yL_change wsL_change (43) (mc) (ms) [.ref χ, .int a, .int b] sh F P (some (.int z0)) sh' F' P' := by
  refine zMet.of (by decide) rfl (Nat.le_of_ble_eq_true rfl) (by simp [Value.category]) ?_
  intro X ρ
  show AW (mL_change mc ms) X (zMQ (mL_change mc ms) X (some (.int z0)) sh' F' P') 0 [some (.ref χ), some (.int a), some (.int b), none] [] ρ sh F P 0 0
  refine aw_iload_1 dL_change_0 ?_
  refine aw_iconst (v := 5) dL_change_1 (by decide) ?_
  refine aw_ishr dL_change_2 ?_
  refine aw_bipush (v := 20) dL_change_3 (by decide) ?_
  refine aw_run (zRun_S (c_L_low (m := 20) (by decide) (by decide)) (Or.inl gL_change_L_low) q_L_low (by show _ < 43; decide) rfl rfl (Nat.le_of_ble_eq_true rfl) dL_change_5 ⟨Nat.zero_le _, Nat.zero_le _⟩) ?_
  refine aw_istore_3 dL_change_8 ?_
  refine aw_iload_1 dL_change_9 ?_
  refine aw_bipush (v := 22) dL_change_10 (by decide) ?_
  refine aw_run (zRun_S (c_L_low (m := 22) (by decide) (by decide)) (Or.inl gL_change_L_low) q_L_low (by show _ < 43; decide) rfl rfl (Nat.le_of_ble_eq_true rfl) dL_change_12 ⟨Nat.zero_le _, Nat.zero_le _⟩) ?_
  refine aw_tableIn (off := 146) (tgt := 161) dL_change_15 hj.1 hj.2.1 hj.2.2 (by decide) ?_
  refine aw_aload_0 dL_change_161 ?_
  refine aw_iload_3 dL_change_162 ?_
  refine aw_iload_2 dL_change_163 ?_
  refine aw_iconst (v := 3) dL_change_164 (by decide) ?_
  refine aw_run (zRun_S (c_L_low (m := 3) (by decide) (by decide)) (Or.inl gL_change_L_low) q_L_low (by show _ < 43; decide) rfl rfl (Nat.le_of_ble_eq_true rfl) dL_change_165 ⟨Nat.zero_le _, Nat.zero_le _⟩) ?_
  refine aw_runA (zRun_V hm gL_change_X6_forbid q_X6_forbid rfl (by show _ < 43; decide) rfl hs rfl rfl (Nat.le_of_ble_eq_true rfl) dL_change_168 ⟨Nat.le_of_eq (Nat.zero_add _), Nat.le_of_eq (Nat.zero_add _)⟩) ⟨fun j hj => by simp at hj; subst hj; exact Or.inl (by rw [hs]; exact Option.some_ne_none _), fun j hj => by cases hj⟩ (fun ρ => ?_)
  exact aw_ireturn rfl dL_change_171 ⟨Nat.le_of_eq (Nat.zero_add _), Nat.le_of_eq (Nat.zero_add _)⟩ rfl rfl rfl rfl

set_option maxHeartbeats 1000000 in
set_option maxRecDepth 100000 in
theorem c_L_change_vessel {sh : zSh} {F : Nat → Nat → Int32} {P : Nat → Nat → Option Nat} {sh' : zSh} {F' : Nat → Nat → Int32} {P' : Nat → Nat → Option Nat} {χ mc ms : Nat} {a b z0 : Int32} (hs : sh χ = some (.inl 6)) (hj : ¬ (nI (pLw a 22)).toInt < 0 ∧ ¬ 20 < (nI (pLw a 22)).toInt ∧ pOff[((nI (pLw a 22)).toInt - 0).toNat]? = some 157)  (hm : zMet yX6_vessel wsX6_vessel 6 mc ms [.ref χ, .int (nI (pTg a)), .int (pVsl b)] sh F P (some (.int z0)) sh' F' P') : zMet yL_change wsL_change (43) (mc) (ms) [.ref χ, .int a, .int b] sh F P (some (.int z0)) sh' F' P' := by
  refine zMet.of (by decide) rfl (Nat.le_of_ble_eq_true rfl) (by simp [Value.category]) ?_
  intro X ρ
  show AW (mL_change mc ms) X (zMQ (mL_change mc ms) X (some (.int z0)) sh' F' P') 0 [some (.ref χ), some (.int a), some (.int b), none] [] ρ sh F P 0 0
  refine aw_iload_1 dL_change_0 ?_
  refine aw_iconst (v := 5) dL_change_1 (by decide) ?_
  refine aw_ishr dL_change_2 ?_
  refine aw_bipush (v := 20) dL_change_3 (by decide) ?_
  refine aw_run (zRun_S (c_L_low (m := 20) (by decide) (by decide)) (Or.inl gL_change_L_low) q_L_low (by show _ < 43; decide) rfl rfl (Nat.le_of_ble_eq_true rfl) dL_change_5 ⟨Nat.zero_le _, Nat.zero_le _⟩) ?_
  refine aw_istore_3 dL_change_8 ?_
  refine aw_iload_1 dL_change_9 ?_
  refine aw_bipush (v := 22) dL_change_10 (by decide) ?_
  refine aw_run (zRun_S (c_L_low (m := 22) (by decide) (by decide)) (Or.inl gL_change_L_low) q_L_low (by show _ < 43; decide) rfl rfl (Nat.le_of_ble_eq_true rfl) dL_change_12 ⟨Nat.zero_le _, Nat.zero_le _⟩) ?_
  refine aw_tableIn (off := 157) (tgt := 172) dL_change_15 hj.1 hj.2.1 hj.2.2 (by decide) ?_
  refine aw_aload_0 dL_change_172 ?_
  refine aw_iload_3 dL_change_173 ?_
  refine aw_iload_2 dL_change_174 ?_
  refine aw_iconst (v := 4) dL_change_175 (by decide) ?_
  refine aw_run (zRun_S (c_L_low (m := 4) (by decide) (by decide)) (Or.inl gL_change_L_low) q_L_low (by show _ < 43; decide) rfl rfl (Nat.le_of_ble_eq_true rfl) dL_change_176 ⟨Nat.zero_le _, Nat.zero_le _⟩) ?_
  refine aw_if_ne (tgt := 187) dL_change_179 (by decide) (fun c179 => ?_) (fun c179 => ?_)
  · refine aw_bipush (v := 12) dL_change_187 (by decide) ?_
    refine aw_iload_2 dL_change_189 ?_
    refine aw_iconst (v := 2) dL_change_190 (by decide) ?_
    refine aw_ishr dL_change_191 ?_
    refine aw_bipush (v := 8) dL_change_192 (by decide) ?_
    refine aw_run (zRun_S (c_L_low (m := 8) (by decide) (by decide)) (Or.inl gL_change_L_low) q_L_low (by show _ < 43; decide) rfl rfl (Nat.le_of_ble_eq_true rfl) dL_change_194 ⟨Nat.zero_le _, Nat.zero_le _⟩) ?_
    refine aw_iadd dL_change_197 ?_
    refine aw_top (x' := pVsl b) (by unfold pVsl; (first | rw [if_pos c179] | rw [if_neg c179]); try rfl) ?_
    refine aw_runA (zRun_V hm gL_change_X6_vessel q_X6_vessel rfl (by show _ < 43; decide) rfl hs rfl rfl (Nat.le_of_ble_eq_true rfl) dL_change_198 ⟨Nat.le_of_eq (Nat.zero_add _), Nat.le_of_eq (Nat.zero_add _)⟩) ⟨fun j hj => by simp at hj; subst hj; exact Or.inl (by rw [hs]; exact Option.some_ne_none _), fun j hj => by cases hj⟩ (fun ρ => ?_)
    exact aw_ireturn rfl dL_change_201 ⟨Nat.le_of_eq (Nat.zero_add _), Nat.le_of_eq (Nat.zero_add _)⟩ rfl rfl rfl rfl
  · refine aw_bipush (v := (-9)) dL_change_182 (by decide) ?_
    refine aw_goto (tgt := 198) dL_change_184 (by decide) ?_
    refine aw_top (x' := pVsl b) (by unfold pVsl; (first | rw [if_pos c179] | rw [if_neg c179]); try rfl) ?_
    refine aw_runA (zRun_V hm gL_change_X6_vessel q_X6_vessel rfl (by show _ < 43; decide) rfl hs rfl rfl (Nat.le_of_ble_eq_true rfl) dL_change_198 ⟨Nat.le_of_eq (Nat.zero_add _), Nat.le_of_eq (Nat.zero_add _)⟩) ⟨fun j hj => by simp at hj; subst hj; exact Or.inl (by rw [hs]; exact Option.some_ne_none _), fun j hj => by cases hj⟩ (fun ρ => ?_)
    exact aw_ireturn rfl dL_change_201 ⟨Nat.le_of_eq (Nat.zero_add _), Nat.le_of_eq (Nat.zero_add _)⟩ rfl rfl rfl rfl

set_option maxHeartbeats 1000000 in
set_option maxRecDepth 100000 in
theorem c_L_change_bring {sh : zSh} {F : Nat → Nat → Int32} {P : Nat → Nat → Option Nat} {sh' : zSh} {F' : Nat → Nat → Int32} {P' : Nat → Nat → Option Nat} {χ mc ms : Nat} {a b z0 : Int32} (hs : sh χ = some (.inl 6)) (hj : ¬ (nI (pLw a 22)).toInt < 0 ∧ ¬ 20 < (nI (pLw a 22)).toInt ∧ pOff[((nI (pLw a 22)).toInt - 0).toNat]? = some 187)  (hm : zMet yX6_bring wsX6_bring 6 mc ms [.ref χ, .int (nI (pTg a)), .int (pBrg b)] sh F P (some (.int z0)) sh' F' P') : zMet yL_change wsL_change (43) (mc) (ms) [.ref χ, .int a, .int b] sh F P (some (.int z0)) sh' F' P' := by
  refine zMet.of (by decide) rfl (Nat.le_of_ble_eq_true rfl) (by simp [Value.category]) ?_
  intro X ρ
  show AW (mL_change mc ms) X (zMQ (mL_change mc ms) X (some (.int z0)) sh' F' P') 0 [some (.ref χ), some (.int a), some (.int b), none] [] ρ sh F P 0 0
  refine aw_iload_1 dL_change_0 ?_
  refine aw_iconst (v := 5) dL_change_1 (by decide) ?_
  refine aw_ishr dL_change_2 ?_
  refine aw_bipush (v := 20) dL_change_3 (by decide) ?_
  refine aw_run (zRun_S (c_L_low (m := 20) (by decide) (by decide)) (Or.inl gL_change_L_low) q_L_low (by show _ < 43; decide) rfl rfl (Nat.le_of_ble_eq_true rfl) dL_change_5 ⟨Nat.zero_le _, Nat.zero_le _⟩) ?_
  refine aw_istore_3 dL_change_8 ?_
  refine aw_iload_1 dL_change_9 ?_
  refine aw_bipush (v := 22) dL_change_10 (by decide) ?_
  refine aw_run (zRun_S (c_L_low (m := 22) (by decide) (by decide)) (Or.inl gL_change_L_low) q_L_low (by show _ < 43; decide) rfl rfl (Nat.le_of_ble_eq_true rfl) dL_change_12 ⟨Nat.zero_le _, Nat.zero_le _⟩) ?_
  refine aw_tableIn (off := 187) (tgt := 202) dL_change_15 hj.1 hj.2.1 hj.2.2 (by decide) ?_
  refine aw_aload_0 dL_change_202 ?_
  refine aw_iload_3 dL_change_203 ?_
  refine aw_iload_2 dL_change_204 ?_
  refine aw_iconst (v := 5) dL_change_205 (by decide) ?_
  refine aw_run (zRun_S (c_L_low (m := 5) (by decide) (by decide)) (Or.inl gL_change_L_low) q_L_low (by show _ < 43; decide) rfl rfl (Nat.le_of_ble_eq_true rfl) dL_change_206 ⟨Nat.zero_le _, Nat.zero_le _⟩) ?_
  refine aw_if_ne (tgt := 224) dL_change_209 (by decide) (fun c209 => ?_) (fun c209 => ?_)
  · refine aw_iload_2 dL_change_224 ?_
    refine aw_iconst (v := 3) dL_change_225 (by decide) ?_
    refine aw_ishr dL_change_226 ?_
    refine aw_bipush (v := 60) dL_change_227 (by decide) ?_
    refine aw_run (zRun_S (c_L_low (m := 60) (by decide) (by decide)) (Or.inl gL_change_L_low) q_L_low (by show _ < 43; decide) rfl rfl (Nat.le_of_ble_eq_true rfl) dL_change_229 ⟨Nat.zero_le _, Nat.zero_le _⟩) ?_
    refine aw_top (x' := pBrg b) (by unfold pBrg; (first | rw [if_pos c209] | rw [if_neg c209]); try rfl) ?_
    refine aw_runA (zRun_V hm gL_change_X6_bring q_X6_bring rfl (by show _ < 43; decide) rfl hs rfl rfl (Nat.le_of_ble_eq_true rfl) dL_change_232 ⟨Nat.le_of_eq (Nat.zero_add _), Nat.le_of_eq (Nat.zero_add _)⟩) ⟨fun j hj => by simp at hj; subst hj; exact Or.inl (by rw [hs]; exact Option.some_ne_none _), fun j hj => by cases hj⟩ (fun ρ => ?_)
    exact aw_ireturn rfl dL_change_235 ⟨Nat.le_of_eq (Nat.zero_add _), Nat.le_of_eq (Nat.zero_add _)⟩ rfl rfl rfl rfl
  · refine aw_iload_2 dL_change_212 ?_
    refine aw_iconst (v := 3) dL_change_213 (by decide) ?_
    refine aw_ishr dL_change_214 ?_
    refine aw_bipush (v := 60) dL_change_215 (by decide) ?_
    refine aw_run (zRun_S (c_L_low (m := 60) (by decide) (by decide)) (Or.inl gL_change_L_low) q_L_low (by show _ < 43; decide) rfl rfl (Nat.le_of_ble_eq_true rfl) dL_change_217 ⟨Nat.zero_le _, Nat.zero_le _⟩) ?_
    refine aw_ineg dL_change_220 ?_
    refine aw_goto (tgt := 232) dL_change_221 (by decide) ?_
    refine aw_top (x' := pBrg b) (by unfold pBrg; (first | rw [if_pos c209] | rw [if_neg c209]); try rfl) ?_
    refine aw_runA (zRun_V hm gL_change_X6_bring q_X6_bring rfl (by show _ < 43; decide) rfl hs rfl rfl (Nat.le_of_ble_eq_true rfl) dL_change_232 ⟨Nat.le_of_eq (Nat.zero_add _), Nat.le_of_eq (Nat.zero_add _)⟩) ⟨fun j hj => by simp at hj; subst hj; exact Or.inl (by rw [hs]; exact Option.some_ne_none _), fun j hj => by cases hj⟩ (fun ρ => ?_)
    exact aw_ireturn rfl dL_change_235 ⟨Nat.le_of_eq (Nat.zero_add _), Nat.le_of_eq (Nat.zero_add _)⟩ rfl rfl rfl rfl

set_option maxHeartbeats 1000000 in
set_option maxRecDepth 100000 in
theorem c_L_change_wish {sh : zSh} {F : Nat → Nat → Int32} {P : Nat → Nat → Option Nat} {sh' : zSh} {F' : Nat → Nat → Int32} {P' : Nat → Nat → Option Nat} {χ mc ms : Nat} {a b z0 : Int32} (hs : sh χ = some (.inl 6)) (hj : ¬ (nI (pLw a 22)).toInt < 0 ∧ ¬ 20 < (nI (pLw a 22)).toInt ∧ pOff[((nI (pLw a 22)).toInt - 0).toNat]? = some 221)  (hm : zMet yX6_wish wsX6_wish 42 mc ms [.ref χ, .int (nI (pLw b 10)), .int (1 + nI (pLw (b >>> ((4 : Int32) &&& 31)) 60))] sh F P (some (.int z0)) sh' F' P') : zMet yL_change wsL_change (43) (mc) (ms) [.ref χ, .int a, .int b] sh F P (some (.int z0)) sh' F' P' := by
  refine zMet.of (by decide) rfl (Nat.le_of_ble_eq_true rfl) (by simp [Value.category]) ?_
  intro X ρ
  show AW (mL_change mc ms) X (zMQ (mL_change mc ms) X (some (.int z0)) sh' F' P') 0 [some (.ref χ), some (.int a), some (.int b), none] [] ρ sh F P 0 0
  refine aw_iload_1 dL_change_0 ?_
  refine aw_iconst (v := 5) dL_change_1 (by decide) ?_
  refine aw_ishr dL_change_2 ?_
  refine aw_bipush (v := 20) dL_change_3 (by decide) ?_
  refine aw_run (zRun_S (c_L_low (m := 20) (by decide) (by decide)) (Or.inl gL_change_L_low) q_L_low (by show _ < 43; decide) rfl rfl (Nat.le_of_ble_eq_true rfl) dL_change_5 ⟨Nat.zero_le _, Nat.zero_le _⟩) ?_
  refine aw_istore_3 dL_change_8 ?_
  refine aw_iload_1 dL_change_9 ?_
  refine aw_bipush (v := 22) dL_change_10 (by decide) ?_
  refine aw_run (zRun_S (c_L_low (m := 22) (by decide) (by decide)) (Or.inl gL_change_L_low) q_L_low (by show _ < 43; decide) rfl rfl (Nat.le_of_ble_eq_true rfl) dL_change_12 ⟨Nat.zero_le _, Nat.zero_le _⟩) ?_
  refine aw_tableIn (off := 221) (tgt := 236) dL_change_15 hj.1 hj.2.1 hj.2.2 (by decide) ?_
  refine aw_aload_0 dL_change_236 ?_
  refine aw_iload_2 dL_change_237 ?_
  refine aw_bipush (v := 10) dL_change_238 (by decide) ?_
  refine aw_run (zRun_S (c_L_low (m := 10) (by decide) (by decide)) (Or.inl gL_change_L_low) q_L_low (by show _ < 43; decide) rfl rfl (Nat.le_of_ble_eq_true rfl) dL_change_240 ⟨Nat.zero_le _, Nat.zero_le _⟩) ?_
  refine aw_iconst (v := 1) dL_change_243 (by decide) ?_
  refine aw_iload_2 dL_change_244 ?_
  refine aw_iconst (v := 4) dL_change_245 (by decide) ?_
  refine aw_ishr dL_change_246 ?_
  refine aw_bipush (v := 60) dL_change_247 (by decide) ?_
  refine aw_run (zRun_S (c_L_low (m := 60) (by decide) (by decide)) (Or.inl gL_change_L_low) q_L_low (by show _ < 43; decide) rfl rfl (Nat.le_of_ble_eq_true rfl) dL_change_249 ⟨Nat.zero_le _, Nat.zero_le _⟩) ?_
  refine aw_iadd dL_change_252 ?_
  refine aw_runA (zRun_V hm gL_change_X6_wish q_X6_wish rfl (by show _ < 43; decide) rfl hs rfl rfl (Nat.le_of_ble_eq_true rfl) dL_change_253 ⟨Nat.le_of_eq (Nat.zero_add _), Nat.le_of_eq (Nat.zero_add _)⟩) ⟨fun j hj => by simp at hj; subst hj; exact Or.inl (by rw [hs]; exact Option.some_ne_none _), fun j hj => by cases hj⟩ (fun ρ => ?_)
  exact aw_ireturn rfl dL_change_256 ⟨Nat.le_of_eq (Nat.zero_add _), Nat.le_of_eq (Nat.zero_add _)⟩ rfl rfl rfl rfl

set_option maxHeartbeats 1000000 in
set_option maxRecDepth 100000 in
theorem c_L_change_make {sh : zSh} {F : Nat → Nat → Int32} {P : Nat → Nat → Option Nat} {sh' : zSh} {F' : Nat → Nat → Int32} {P' : Nat → Nat → Option Nat} {χ mc ms : Nat} {a b z0 : Int32} (hs : sh χ = some (.inl 6)) (hj : ¬ (nI (pLw a 22)).toInt < 0 ∧ ¬ 20 < (nI (pLw a 22)).toInt ∧ pOff[((nI (pLw a 22)).toInt - 0).toNat]? = some 242)  (hm : zMet yX6_make wsX6_make 42 mc ms [.ref χ, .int (nI (pLw b 10)), .int (1 + nI (pLw (b >>> ((4 : Int32) &&& 31)) 9))] sh F P (some (.int z0)) sh' F' P') : zMet yL_change wsL_change (43) (mc) (ms) [.ref χ, .int a, .int b] sh F P (some (.int z0)) sh' F' P' := by
  refine zMet.of (by decide) rfl (Nat.le_of_ble_eq_true rfl) (by simp [Value.category]) ?_
  intro X ρ
  show AW (mL_change mc ms) X (zMQ (mL_change mc ms) X (some (.int z0)) sh' F' P') 0 [some (.ref χ), some (.int a), some (.int b), none] [] ρ sh F P 0 0
  refine aw_iload_1 dL_change_0 ?_
  refine aw_iconst (v := 5) dL_change_1 (by decide) ?_
  refine aw_ishr dL_change_2 ?_
  refine aw_bipush (v := 20) dL_change_3 (by decide) ?_
  refine aw_run (zRun_S (c_L_low (m := 20) (by decide) (by decide)) (Or.inl gL_change_L_low) q_L_low (by show _ < 43; decide) rfl rfl (Nat.le_of_ble_eq_true rfl) dL_change_5 ⟨Nat.zero_le _, Nat.zero_le _⟩) ?_
  refine aw_istore_3 dL_change_8 ?_
  refine aw_iload_1 dL_change_9 ?_
  refine aw_bipush (v := 22) dL_change_10 (by decide) ?_
  refine aw_run (zRun_S (c_L_low (m := 22) (by decide) (by decide)) (Or.inl gL_change_L_low) q_L_low (by show _ < 43; decide) rfl rfl (Nat.le_of_ble_eq_true rfl) dL_change_12 ⟨Nat.zero_le _, Nat.zero_le _⟩) ?_
  refine aw_tableIn (off := 242) (tgt := 257) dL_change_15 hj.1 hj.2.1 hj.2.2 (by decide) ?_
  refine aw_aload_0 dL_change_257 ?_
  refine aw_iload_2 dL_change_258 ?_
  refine aw_bipush (v := 10) dL_change_259 (by decide) ?_
  refine aw_run (zRun_S (c_L_low (m := 10) (by decide) (by decide)) (Or.inl gL_change_L_low) q_L_low (by show _ < 43; decide) rfl rfl (Nat.le_of_ble_eq_true rfl) dL_change_261 ⟨Nat.zero_le _, Nat.zero_le _⟩) ?_
  refine aw_iconst (v := 1) dL_change_264 (by decide) ?_
  refine aw_iload_2 dL_change_265 ?_
  refine aw_iconst (v := 4) dL_change_266 (by decide) ?_
  refine aw_ishr dL_change_267 ?_
  refine aw_bipush (v := 9) dL_change_268 (by decide) ?_
  refine aw_run (zRun_S (c_L_low (m := 9) (by decide) (by decide)) (Or.inl gL_change_L_low) q_L_low (by show _ < 43; decide) rfl rfl (Nat.le_of_ble_eq_true rfl) dL_change_270 ⟨Nat.zero_le _, Nat.zero_le _⟩) ?_
  refine aw_iadd dL_change_273 ?_
  refine aw_runA (zRun_V hm gL_change_X6_make q_X6_make rfl (by show _ < 43; decide) rfl hs rfl rfl (Nat.le_of_ble_eq_true rfl) dL_change_274 ⟨Nat.le_of_eq (Nat.zero_add _), Nat.le_of_eq (Nat.zero_add _)⟩) ⟨fun j hj => by simp at hj; subst hj; exact Or.inl (by rw [hs]; exact Option.some_ne_none _), fun j hj => by cases hj⟩ (fun ρ => ?_)
  exact aw_ireturn rfl dL_change_277 ⟨Nat.le_of_eq (Nat.zero_add _), Nat.le_of_eq (Nat.zero_add _)⟩ rfl rfl rfl rfl

set_option maxHeartbeats 1000000 in
set_option maxRecDepth 100000 in
theorem c_L_change_keep {sh : zSh} {F : Nat → Nat → Int32} {P : Nat → Nat → Option Nat} {sh' : zSh} {F' : Nat → Nat → Int32} {P' : Nat → Nat → Option Nat} {χ mc ms : Nat} {a b z0 : Int32} (hs : sh χ = some (.inl 6)) (hj : ¬ (nI (pLw a 22)).toInt < 0 ∧ ¬ 20 < (nI (pLw a 22)).toInt ∧ pOff[((nI (pLw a 22)).toInt - 0).toNat]? = some 268) (h2 : nI (pLw b 2) = 0) (hm : zMet yX6_keep wsX6_keep 5 mc ms [.ref χ, .int (nI (pLw (b >>> ((1 : Int32) &&& 31)) 2))] sh F P (some (.int z0)) sh' F' P') : zMet yL_change wsL_change (43) (mc) (ms) [.ref χ, .int a, .int b] sh F P (some (.int z0)) sh' F' P' := by
  refine zMet.of (by decide) rfl (Nat.le_of_ble_eq_true rfl) (by simp [Value.category]) ?_
  intro X ρ
  show AW (mL_change mc ms) X (zMQ (mL_change mc ms) X (some (.int z0)) sh' F' P') 0 [some (.ref χ), some (.int a), some (.int b), none] [] ρ sh F P 0 0
  refine aw_iload_1 dL_change_0 ?_
  refine aw_iconst (v := 5) dL_change_1 (by decide) ?_
  refine aw_ishr dL_change_2 ?_
  refine aw_bipush (v := 20) dL_change_3 (by decide) ?_
  refine aw_run (zRun_S (c_L_low (m := 20) (by decide) (by decide)) (Or.inl gL_change_L_low) q_L_low (by show _ < 43; decide) rfl rfl (Nat.le_of_ble_eq_true rfl) dL_change_5 ⟨Nat.zero_le _, Nat.zero_le _⟩) ?_
  refine aw_istore_3 dL_change_8 ?_
  refine aw_iload_1 dL_change_9 ?_
  refine aw_bipush (v := 22) dL_change_10 (by decide) ?_
  refine aw_run (zRun_S (c_L_low (m := 22) (by decide) (by decide)) (Or.inl gL_change_L_low) q_L_low (by show _ < 43; decide) rfl rfl (Nat.le_of_ble_eq_true rfl) dL_change_12 ⟨Nat.zero_le _, Nat.zero_le _⟩) ?_
  refine aw_tableIn (off := 268) (tgt := 283) dL_change_15 hj.1 hj.2.1 hj.2.2 (by decide) ?_
  refine aw_iload_2 dL_change_283 ?_
  refine aw_iconst (v := 2) dL_change_284 (by decide) ?_
  refine aw_run (zRun_S (c_L_low (m := 2) (by decide) (by decide)) (Or.inl gL_change_L_low) q_L_low (by show _ < 43; decide) rfl rfl (Nat.le_of_ble_eq_true rfl) dL_change_285 ⟨Nat.zero_le _, Nat.zero_le _⟩) ?_
  refine aw_if_ne (tgt := 305) dL_change_288 (by decide) (fun c288 => absurd c288 (fun e => e h2)) (fun c288 => ?_)
  refine aw_aload_0 dL_change_291 ?_
  refine aw_iload_2 dL_change_292 ?_
  refine aw_iconst (v := 1) dL_change_293 (by decide) ?_
  refine aw_ishr dL_change_294 ?_
  refine aw_iconst (v := 2) dL_change_295 (by decide) ?_
  refine aw_run (zRun_S (c_L_low (m := 2) (by decide) (by decide)) (Or.inl gL_change_L_low) q_L_low (by show _ < 43; decide) rfl rfl (Nat.le_of_ble_eq_true rfl) dL_change_296 ⟨Nat.zero_le _, Nat.zero_le _⟩) ?_
  refine aw_runA (zRun_V hm gL_change_X6_keep q_X6_keep rfl (by show _ < 43; decide) rfl hs rfl rfl (Nat.le_of_ble_eq_true rfl) dL_change_299 ⟨Nat.le_of_eq (Nat.zero_add _), Nat.le_of_eq (Nat.zero_add _)⟩) ⟨fun j hj => by simp at hj; subst hj; exact Or.inl (by rw [hs]; exact Option.some_ne_none _), fun j hj => by cases hj⟩ (fun ρ => ?_)
  refine aw_goto (tgt := 316) dL_change_302 (by decide) ?_
  exact aw_ireturn rfl dL_change_316 ⟨Nat.le_of_eq (Nat.zero_add _), Nat.le_of_eq (Nat.zero_add _)⟩ rfl rfl rfl rfl

set_option maxHeartbeats 1000000 in
set_option maxRecDepth 100000 in
theorem c_L_change_back {sh : zSh} {F : Nat → Nat → Int32} {P : Nat → Nat → Option Nat} {sh' : zSh} {F' : Nat → Nat → Int32} {P' : Nat → Nat → Option Nat} {χ mc ms : Nat} {a b z0 : Int32} (hs : sh χ = some (.inl 6)) (hj : ¬ (nI (pLw a 22)).toInt < 0 ∧ ¬ 20 < (nI (pLw a 22)).toInt ∧ pOff[((nI (pLw a 22)).toInt - 0).toNat]? = some 268) (h2 : nI (pLw b 2) ≠ 0) (hm : zMet yX6_back wsX6_back 6 mc ms [.ref χ, .int (nI (pLw (b >>> ((1 : Int32) &&& 31)) 2))] sh F P (some (.int z0)) sh' F' P') : zMet yL_change wsL_change (43) (mc) (ms) [.ref χ, .int a, .int b] sh F P (some (.int z0)) sh' F' P' := by
  refine zMet.of (by decide) rfl (Nat.le_of_ble_eq_true rfl) (by simp [Value.category]) ?_
  intro X ρ
  show AW (mL_change mc ms) X (zMQ (mL_change mc ms) X (some (.int z0)) sh' F' P') 0 [some (.ref χ), some (.int a), some (.int b), none] [] ρ sh F P 0 0
  refine aw_iload_1 dL_change_0 ?_
  refine aw_iconst (v := 5) dL_change_1 (by decide) ?_
  refine aw_ishr dL_change_2 ?_
  refine aw_bipush (v := 20) dL_change_3 (by decide) ?_
  refine aw_run (zRun_S (c_L_low (m := 20) (by decide) (by decide)) (Or.inl gL_change_L_low) q_L_low (by show _ < 43; decide) rfl rfl (Nat.le_of_ble_eq_true rfl) dL_change_5 ⟨Nat.zero_le _, Nat.zero_le _⟩) ?_
  refine aw_istore_3 dL_change_8 ?_
  refine aw_iload_1 dL_change_9 ?_
  refine aw_bipush (v := 22) dL_change_10 (by decide) ?_
  refine aw_run (zRun_S (c_L_low (m := 22) (by decide) (by decide)) (Or.inl gL_change_L_low) q_L_low (by show _ < 43; decide) rfl rfl (Nat.le_of_ble_eq_true rfl) dL_change_12 ⟨Nat.zero_le _, Nat.zero_le _⟩) ?_
  refine aw_tableIn (off := 268) (tgt := 283) dL_change_15 hj.1 hj.2.1 hj.2.2 (by decide) ?_
  refine aw_iload_2 dL_change_283 ?_
  refine aw_iconst (v := 2) dL_change_284 (by decide) ?_
  refine aw_run (zRun_S (c_L_low (m := 2) (by decide) (by decide)) (Or.inl gL_change_L_low) q_L_low (by show _ < 43; decide) rfl rfl (Nat.le_of_ble_eq_true rfl) dL_change_285 ⟨Nat.zero_le _, Nat.zero_le _⟩) ?_
  refine aw_if_ne (tgt := 305) dL_change_288 (by decide) (fun c288 => ?_) (fun c288 => absurd c288 h2)
  refine aw_aload_0 dL_change_305 ?_
  refine aw_iload_2 dL_change_306 ?_
  refine aw_iconst (v := 1) dL_change_307 (by decide) ?_
  refine aw_ishr dL_change_308 ?_
  refine aw_iconst (v := 2) dL_change_309 (by decide) ?_
  refine aw_run (zRun_S (c_L_low (m := 2) (by decide) (by decide)) (Or.inl gL_change_L_low) q_L_low (by show _ < 43; decide) rfl rfl (Nat.le_of_ble_eq_true rfl) dL_change_310 ⟨Nat.zero_le _, Nat.zero_le _⟩) ?_
  refine aw_runA (zRun_V hm gL_change_X6_back q_X6_back rfl (by show _ < 43; decide) rfl hs rfl rfl (Nat.le_of_ble_eq_true rfl) dL_change_313 ⟨Nat.le_of_eq (Nat.zero_add _), Nat.le_of_eq (Nat.zero_add _)⟩) ⟨fun j hj => by simp at hj; subst hj; exact Or.inl (by rw [hs]; exact Option.some_ne_none _), fun j hj => by cases hj⟩ (fun ρ => ?_)
  exact aw_ireturn rfl dL_change_316 ⟨Nat.le_of_eq (Nat.zero_add _), Nat.le_of_eq (Nat.zero_add _)⟩ rfl rfl rfl rfl

set_option maxHeartbeats 1000000 in
set_option maxRecDepth 100000 in
theorem c_L_change_wish2 {sh : zSh} {F : Nat → Nat → Int32} {P : Nat → Nat → Option Nat} {sh' : zSh} {F' : Nat → Nat → Int32} {P' : Nat → Nat → Option Nat} {χ mc ms : Nat} {a b z0 : Int32} (hs : sh χ = some (.inl 6)) (hj : (nI (pLw a 22)).toInt < 0 ∨ 20 < (nI (pLw a 22)).toInt)  (hm : zMet yX6_wish wsX6_wish 42 mc ms [.ref χ, .int (nI (pTg a)), .int (1 + nI (pLw b 999))] sh F P (some (.int z0)) sh' F' P') : zMet yL_change wsL_change (43) (mc) (ms) [.ref χ, .int a, .int b] sh F P (some (.int z0)) sh' F' P' := by
  refine zMet.of (by decide) rfl (Nat.le_of_ble_eq_true rfl) (by simp [Value.category]) ?_
  intro X ρ
  show AW (mL_change mc ms) X (zMQ (mL_change mc ms) X (some (.int z0)) sh' F' P') 0 [some (.ref χ), some (.int a), some (.int b), none] [] ρ sh F P 0 0
  refine aw_iload_1 dL_change_0 ?_
  refine aw_iconst (v := 5) dL_change_1 (by decide) ?_
  refine aw_ishr dL_change_2 ?_
  refine aw_bipush (v := 20) dL_change_3 (by decide) ?_
  refine aw_run (zRun_S (c_L_low (m := 20) (by decide) (by decide)) (Or.inl gL_change_L_low) q_L_low (by show _ < 43; decide) rfl rfl (Nat.le_of_ble_eq_true rfl) dL_change_5 ⟨Nat.zero_le _, Nat.zero_le _⟩) ?_
  refine aw_istore_3 dL_change_8 ?_
  refine aw_iload_1 dL_change_9 ?_
  refine aw_bipush (v := 22) dL_change_10 (by decide) ?_
  refine aw_run (zRun_S (c_L_low (m := 22) (by decide) (by decide)) (Or.inl gL_change_L_low) q_L_low (by show _ < 43; decide) rfl rfl (Nat.le_of_ble_eq_true rfl) dL_change_12 ⟨Nat.zero_le _, Nat.zero_le _⟩) ?_
  refine aw_tableOut (tgt := 317) dL_change_15 hj (by decide) ?_
  refine aw_aload_0 dL_change_317 ?_
  refine aw_iload_3 dL_change_318 ?_
  refine aw_iconst (v := 1) dL_change_319 (by decide) ?_
  refine aw_iload_2 dL_change_320 ?_
  refine aw_sipush (v := 999) dL_change_321 (by decide) ?_
  refine aw_run (zRun_S (c_L_low (m := 999) (by decide) (by decide)) (Or.inl gL_change_L_low) q_L_low (by show _ < 43; decide) rfl rfl (Nat.le_of_ble_eq_true rfl) dL_change_324 ⟨Nat.zero_le _, Nat.zero_le _⟩) ?_
  refine aw_iadd dL_change_327 ?_
  refine aw_runA (zRun_V hm gL_change_X6_wish q_X6_wish rfl (by show _ < 43; decide) rfl hs rfl rfl (Nat.le_of_ble_eq_true rfl) dL_change_328 ⟨Nat.le_of_eq (Nat.zero_add _), Nat.le_of_eq (Nat.zero_add _)⟩) ⟨fun j hj => by simp at hj; subst hj; exact Or.inl (by rw [hs]; exact Option.some_ne_none _), fun j hj => by cases hj⟩ (fun ρ => ?_)
  exact aw_ireturn rfl dL_change_331 ⟨Nat.le_of_eq (Nat.zero_add _), Nat.le_of_eq (Nat.zero_add _)⟩ rfl rfl rfl rfl


theorem pCall.via {y y' : MethodName} {ws ws' : List Cond} {h h' : Nat} {as as' : List Value} {v v' : pV} {z : Int32} (hc : pCall y ws h as v z v') (k : ∀ (sh : zSh) (F : pM) (P : Nat → Nat → Option Nat) (χ mc ms : Nat) (sh' : zSh) (F' : pM) (P' : Nat → Nat → Option Nat), sh χ = some (.inl 6) → zMet y ws h mc ms (.ref χ :: as) sh F P (some (.int z)) sh' F' P' → zMet y' ws' h' mc ms (.ref χ :: as') sh F P (some (.int z)) sh' F' P') : pCall y' ws' h' as' v z v' := fun sh F P χ hL => by
  obtain ⟨mc, ms, sh', F', P', h1, h2, m, hL', hF⟩ := hc sh F P χ hL
  exact ⟨mc, ms, sh', F', P', h1, h2, k _ _ _ _ _ _ _ _ _ hL.1.1.1 m, hL', hF⟩
theorem pOff_at {a : Int32} {j : Nat} {o : Int} (hj : pLw a 22 = j) (h20 : j ≤ 20) (ho : pOff[j]? = some o) : ¬ (nI (pLw a 22)).toInt < 0 ∧ ¬ 20 < (nI (pLw a 22)).toInt ∧ pOff[((nI (pLw a 22)).toInt - 0).toNat]? = some o := by
  rw [hj, nI_toInt (by omega)]
  refine ⟨by omega, by omega, ?_⟩
  rw [show ((j : Int) - 0).toNat = j by omega]
  exact ho
theorem p_change {v : pV} {N : Nat} (h : pInv v N) (hN : N ≤ 100000000) (a b : Int32) (h19 : pLw a 22 ≠ 19) : ∃ z v', pCall yL_change wsL_change 43 [.int a, .int b] v z v' ∧ pInv v' (N + 70000) := by
  have h22 : pLw a 22 < 22 := pLw_lt (by decide)
  have lay : ∀ {o}, (¬ (nI (pLw a 22)).toInt < 0 ∧ ¬ 20 < (nI (pLw a 22)).toInt ∧ pOff[((nI (pLw a 22)).toInt - 0).toNat]? = some o) → o = 97 → ∃ z v', pCall yL_change wsL_change 43 [.int a, .int b] v z v' ∧ pInv v' (N + 70000) := by
    intro o hj ho
    subst ho
    obtain ⟨z, v', hc, hi⟩ := p_lrecipe h b a
    exact ⟨z, v', hc.via fun _ _ _ _ _ _ _ _ _ hs m => c_L_change_recipe hs hj m, hi.more (by omega)⟩
  have alw : ∀ {o}, (¬ (nI (pLw a 22)).toInt < 0 ∧ ¬ 20 < (nI (pLw a 22)).toInt ∧ pOff[((nI (pLw a 22)).toInt - 0).toNat]? = some o) → o = 127 → ∃ z v', pCall yL_change wsL_change 43 [.int a, .int b] v z v' ∧ pInv v' (N + 70000) := by
    intro o hj ho
    subst ho
    obtain ⟨z, v', hc, hi⟩ := p_allow h (nI (pLw b 12)) (nI (pLw (b >>> ((4 : Int32) &&& 31)) 20))
    exact ⟨z, v', hc.via fun _ _ _ _ _ _ _ _ _ hs m => c_L_change_allow hs hj m, hi.more (by omega)⟩
  have ves : ∀ {o}, (¬ (nI (pLw a 22)).toInt < 0 ∧ ¬ 20 < (nI (pLw a 22)).toInt ∧ pOff[((nI (pLw a 22)).toInt - 0).toNat]? = some o) → o = 157 → ∃ z v', pCall yL_change wsL_change 43 [.int a, .int b] v z v' ∧ pInv v' (N + 70000) := by
    intro o hj ho
    subst ho
    obtain ⟨z, v', hc, hi⟩ := p_vessel h (nI (pTg a)) (pVsl b)
    exact ⟨z, v', hc.via fun _ _ _ _ _ _ _ _ _ hs m => c_L_change_vessel hs hj m, hi.more (by omega)⟩
  have brg : ∀ {o}, (¬ (nI (pLw a 22)).toInt < 0 ∧ ¬ 20 < (nI (pLw a 22)).toInt ∧ pOff[((nI (pLw a 22)).toInt - 0).toNat]? = some o) → o = 187 → ∃ z v', pCall yL_change wsL_change 43 [.int a, .int b] v z v' ∧ pInv v' (N + 70000) := by
    intro o hj ho
    subst ho
    obtain ⟨z, v', hc, hi⟩ := p_bring h (nI (pTg a)) (pBrg b)
    exact ⟨z, v', hc.via fun _ _ _ _ _ _ _ _ _ hs m => c_L_change_bring hs hj m, hi.more (by omega)⟩
  have wsh : ∀ {o}, (¬ (nI (pLw a 22)).toInt < 0 ∧ ¬ 20 < (nI (pLw a 22)).toInt ∧ pOff[((nI (pLw a 22)).toInt - 0).toNat]? = some o) → o = 221 → ∃ z v', pCall yL_change wsL_change 43 [.int a, .int b] v z v' ∧ pInv v' (N + 70000) := by
    intro o hj ho
    subst ho
    obtain ⟨z, v', hc, hi⟩ := p_wish h hN (nI (pLw b 10)) (1 + nI (pLw (b >>> ((4 : Int32) &&& 31)) 60))
    exact ⟨z, v', hc.via fun _ _ _ _ _ _ _ _ _ hs m => c_L_change_wish hs hj m, hi⟩
  have mak : ∀ {o}, (¬ (nI (pLw a 22)).toInt < 0 ∧ ¬ 20 < (nI (pLw a 22)).toInt ∧ pOff[((nI (pLw a 22)).toInt - 0).toNat]? = some o) → o = 242 → ∃ z v', pCall yL_change wsL_change 43 [.int a, .int b] v z v' ∧ pInv v' (N + 70000) := by
    intro o hj ho
    subst ho
    obtain ⟨z, v', hc, hi⟩ := p_make h hN (nI (pLw b 10)) (1 + nI (pLw (b >>> ((4 : Int32) &&& 31)) 9))
    exact ⟨z, v', hc.via fun _ _ _ _ _ _ _ _ _ hs m => c_L_change_make hs hj m, hi⟩
  have hj : pLw a 22 = 0 ∨ pLw a 22 = 1 ∨ pLw a 22 = 2 ∨ pLw a 22 = 3 ∨ pLw a 22 = 4 ∨ pLw a 22 = 5 ∨ pLw a 22 = 6 ∨ pLw a 22 = 7 ∨ pLw a 22 = 8 ∨ pLw a 22 = 9 ∨ pLw a 22 = 10 ∨ pLw a 22 = 11 ∨ pLw a 22 = 12 ∨ pLw a 22 = 13 ∨ pLw a 22 = 14 ∨ pLw a 22 = 15 ∨ pLw a 22 = 16 ∨ pLw a 22 = 17 ∨ pLw a 22 = 18 ∨ pLw a 22 = 20 ∨ pLw a 22 = 21 := by omega
  rcases hj with e | e | e | e | e | e | e | e | e | e | e | e | e | e | e | e | e | e | e | e | e
  · exact lay (pOff_at e (by decide) (o := 97) (by decide)) rfl
  · exact lay (pOff_at e (by decide) (o := 97) (by decide)) rfl
  · exact lay (pOff_at e (by decide) (o := 97) (by decide)) rfl
  · exact lay (pOff_at e (by decide) (o := 97) (by decide)) rfl
  · exact lay (pOff_at e (by decide) (o := 97) (by decide)) rfl
  · have hj := pOff_at (o := 104) e (by decide) (by decide)
    by_cases h3 : nI (pLw b 3) = 0
    · obtain ⟨z, v', hc, hi⟩ := p_forget h (nI (pTg a))
      exact ⟨z, v', hc.via fun _ _ _ _ _ _ _ _ _ hs m => c_L_change_forget hs hj h3 m, hi.more (by omega)⟩
    · obtain ⟨z, v', hc, hi⟩ := p_lrecipe h b a
      exact ⟨z, v', hc.via fun _ _ _ _ _ _ _ _ _ hs m => c_L_change_recipe2 hs hj h3 m, hi.more (by omega)⟩
  · exact alw (pOff_at e (by decide) (o := 127) (by decide)) rfl
  · exact alw (pOff_at e (by decide) (o := 127) (by decide)) rfl
  · exact alw (pOff_at e (by decide) (o := 127) (by decide)) rfl
  · obtain ⟨z, v', hc, hi⟩ := p_forbid h (nI (pTg a)) (nI (pLw b 3))
    exact ⟨z, v', hc.via fun _ _ _ _ _ _ _ _ _ hs m => c_L_change_forbid hs (pOff_at e (by decide) (by decide)) m, hi.more (by omega)⟩
  · exact ves (pOff_at e (by decide) (o := 157) (by decide)) rfl
  · exact ves (pOff_at e (by decide) (o := 157) (by decide)) rfl
  · exact brg (pOff_at e (by decide) (o := 187) (by decide)) rfl
  · exact brg (pOff_at e (by decide) (o := 187) (by decide)) rfl
  · exact wsh (pOff_at e (by decide) (o := 221) (by decide)) rfl
  · exact wsh (pOff_at e (by decide) (o := 221) (by decide)) rfl
  · exact wsh (pOff_at e (by decide) (o := 221) (by decide)) rfl
  · exact mak (pOff_at e (by decide) (o := 242) (by decide)) rfl
  · exact mak (pOff_at e (by decide) (o := 242) (by decide)) rfl
  · have hj := pOff_at (o := 268) e (by decide) (by decide)
    by_cases h2 : nI (pLw b 2) = 0
    · obtain ⟨z, v', hc, hi⟩ := p_keep h (nI (pLw (b >>> ((1 : Int32) &&& 31)) 2))
      exact ⟨z, v', hc.via fun _ _ _ _ _ _ _ _ _ hs m => c_L_change_keep hs hj h2 m, hi.more (by omega)⟩
    · obtain ⟨z, v', hc, hi⟩ := p_back h (nI (pLw (b >>> ((1 : Int32) &&& 31)) 2))
      exact ⟨z, v', hc.via fun _ _ _ _ _ _ _ _ _ hs m => c_L_change_back hs hj h2 m, hi.more (by omega)⟩
  · obtain ⟨z, v', hc, hi⟩ := p_wish h hN (nI (pTg a)) (1 + nI (pLw b 999))
    exact ⟨z, v', hc.via fun _ _ _ _ _ _ _ _ _ hs m => c_L_change_wish2 hs (Or.inr (by rw [e, nI_toInt (by decide)]; decide)) m, hi⟩

