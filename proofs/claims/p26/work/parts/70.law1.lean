/-! ===== 70.law1: low, number, recipe of the law ===== -/
def pLw (v : Int32) (m : Nat) : Nat := v.toBitVec.toNat % 2 ^ 31 % m
theorem pLw_lt {v : Int32} {m : Nat} (h : 0 < m) : pLw v m < m := Nat.mod_lt _ h
def pRcA (k : Nat) (s : (Nat → Int32) × Int32) : (Nat → Int32) × Int32 := if nI k ≤ 0 then s else pWr 43 s
def pRcN (b : Int32) (k : Nat) (s : (Nat → Int32) × Int32) : (Nat → Int32) × Int32 := if nI (pLw (b >>> ((2 + nI k) &&& 31)) 3) ≤ 0 then s else pWr (48 + nI (1 + pLw (b >>> ((5 + 2 * nI k) &&& 31)) 5)) s
def pRcL (a b : Int32) (k : Nat) : Int32 := if nI (pLw (a >>> ((9 : Int32) &&& 31)) 9) = 0 then nI (pLw (b >>> ((3 * nI k) &&& 31)) 20) else nI (pLw a 12) + 1 + nI (pLw (b >>> ((11 + 3 * nI k) &&& 31)) (19 - pLw a 12))
def pRcB (a b : Int32) (k : Nat) (s : (Nat → Int32) × Int32) : (Nat → Int32) × Int32 := pWr (97 + pRcL a b k) (pRcN b k (pRcA k s))
def pRc1 (a : Int32) (T : Nat → Int32) : (Nat → Int32) × Int32 := pWr (97 + nI (pLw a 12)) (T, 0)
def pRc2 (a : Int32) (s : (Nat → Int32) × Int32) : (Nat → Int32) × Int32 := if nI (pLw (a >>> ((4 : Int32) &&& 31)) 2) = 0 then pWr ((48 : Int32) + nI (1 + pLw (a >>> ((5 : Int32) &&& 31)) 6)) s else s
def pRc3 (a : Int32) (T : Nat → Int32) : (Nat → Int32) × Int32 := pWr 61 (pRc2 a (pRc1 a T))
def pRcT (a b : Int32) (T : Nat → Int32) : (Nat → Int32) × Int32 := it (pRcB a b) (1 + pLw b 3) (pRc3 a T)

abbrev mL_low : ZM := (cL_low, RL, wsL_low, 1, 0, 0, (some .int), 2, yL_low.name)
set_option maxHeartbeats 1000000 in
set_option maxRecDepth 100000 in
theorem c_L_low {sh : zSh} {F : Nat → Nat → Int32} {P : Nat → Nat → Option Nat} {v : Int32} {m : Nat} (h0 : 0 < m) (hm : m < 2 ^ 31) : zMet yL_low wsL_low (1) (0) (0) [.int v, .int (nI m)] sh F P (some (.int (nI (pLw v m)))) sh F P := by
  refine zMet.of (by decide) rfl (Nat.le_of_ble_eq_true rfl) (by simp [Value.category]) ?_
  intro X ρ
  show AW mL_low X (zMQ mL_low X (some (.int (nI (pLw v m)))) sh F P) 0 [some (.int v), some (.int (nI m))] [] ρ sh F P 0 0
  refine aw_iload_0 dL_low_0 ?_
  refine aw_ldc (v := 2147483647) (by decide +kernel : Cond.constant RL 8 2147483647 ∈ wsL_low) dL_low_1 ?_
  refine aw_iand dL_low_3 ?_
  refine aw_iload_1 dL_low_4 ?_
  refine aw_irem (nI_ne0 h0 hm) dL_low_5 ?_
  exact aw_ireturn rfl dL_low_6 ⟨Nat.zero_le _, Nat.zero_le _⟩ (by rw [show v &&& 2147483647 = nI (v.toBitVec.toNat % 2 ^ 31) from pk_and v 31 (by decide), pk_rem (Nat.mod_lt _ (by decide)) h0 hm]; rfl) rfl rfl rfl

abbrev mL_number : ZM := (cL_number, RL, wsL_number, 3, 0, 0, (some .int), 3, yL_number.name)
set_option maxHeartbeats 1000000 in
set_option maxRecDepth 100000 in
theorem c_L_number {sh : zSh} {F : Nat → Nat → Int32} {P : Nat → Nat → Option Nat} {F' : Nat → Nat → Int32} {χ k : Nat} {z : Int32} (hk : k ≤ 9) (hs : sh χ = some (.inl 6)) (hw : zMet yX6_write wsX6_write 2 0 0 [.ref χ, .int (48 + nI k)] sh F P (some (.int z)) sh F' P) : zMet yL_number wsL_number (3) (0) (0) [.ref χ, .int (nI k)] sh F P (some (.int z)) sh F' P := by
  refine zMet.of (by decide) rfl (Nat.le_of_ble_eq_true rfl) (by simp [Value.category]) ?_
  intro X ρ
  show AW mL_number X (zMQ mL_number X (some (.int z)) sh F' P) 0 [some (.ref χ), some (.int (nI k)), none] [] ρ sh F P 0 0
  refine aw_iload_1 dL_number_0 ?_
  refine aw_bipush (v := 9) dL_number_1 (by decide) ?_
  refine aw_icmp_le (tgt := 20) dL_number_3 (by decide) (fun c3 => ?_) (fun c3 => absurd (show nI k ≤ 9 from nI_le (b := 9) hk (by decide)) c3)
  refine aw_iconst (v := 0) dL_number_20 (by decide) ?_
  refine aw_istore_2 dL_number_21 ?_
  refine aw_aload_0 dL_number_22 ?_
  refine aw_bipush (v := 48) dL_number_23 (by decide) ?_
  refine aw_iload_1 dL_number_25 ?_
  refine aw_bipush (v := 10) dL_number_26 (by decide) ?_
  refine aw_irem (by decide) dL_number_28 ?_
  refine aw_top (x' := nI k) (by rw [show nI k - nI k / 10 * 10 = nI (k % 10) from pk_rem (d := 10) (by omega) (by decide) (by decide), Nat.mod_eq_of_lt (by omega)]) ?_
  refine aw_iadd dL_number_29 ?_
  refine aw_run (zRun_V hw gL_number_X6_write q_X6_write rfl (by decide) rfl hs rfl rfl (Nat.le_of_ble_eq_true rfl) dL_number_30 ⟨Nat.le_refl _, Nat.le_refl _⟩) ?_
  exact aw_ireturn rfl dL_number_33 ⟨Nat.zero_le _, Nat.zero_le _⟩ (by first | rfl | simp [c3]) rfl rfl rfl

abbrev mL_recipe (mc ms : Nat) : ZM := (cL_recipe, RL, wsL_recipe, 7, mc, ms, (some .int), 7, yL_recipe.name)
set_option maxHeartbeats 1000000 in
set_option maxRecDepth 100000 in
theorem c_L_recipe {sh : zSh} {F : Nat → Nat → Int32} {P : Nat → Nat → Option Nat} {sh' : zSh} {F' : Nat → Nat → Int32} {P' : Nat → Nat → Option Nat} {χ mc ms : Nat} {a b z0 : Int32} (hY : zSys sh P χ) (hr : zMet yX6_recipe wsX6_recipe 6 mc ms [.ref χ] sh (fT F χ (pRcT a b (F (χ + 40)))) P (some (.int z0)) sh' F' P') : zMet yL_recipe wsL_recipe (7) (mc) (ms) [.ref χ, .int a, .int b] sh F P (some (.int z0)) sh' F' P' := by
  refine zMet.of (by decide) rfl (Nat.le_of_ble_eq_true rfl) (by simp [Value.category]) ?_
  intro X ρ
  show AW (mL_recipe mc ms) X (zMQ (mL_recipe mc ms) X (some (.int z0)) sh' F' P') 0 [some (.ref χ), some (.int a), some (.int b), none, none, none, none] [] ρ sh F P 0 0
  have hs := hY.1.1
  have h3 : pLw b 3 < 3 := pLw_lt (by decide)
  have h12 : pLw a 12 < 12 := pLw_lt (by decide)
  have L71 : ∀ (m k : Nat) (z : Int32), k ≤ 1 + pLw b 3 → 1 + pLw b 3 - k = m → AW (mL_recipe mc ms) X (zMQ (mL_recipe mc ms) X (some (.int z0)) sh' F' P') 71 [some (.ref χ), some (.int a), some (.int b), some (.int z), some (.int (nI (pLw a 12))), some (.int (nI (1 + pLw b 3))), some (.int (nI k))] [] ρ sh (fT F χ (it (pRcB a b) k (pRc3 a (F (χ + 40))))) P 0 0 := by
    intro m
    induction m using Nat.strongRecOn with
    | _ m ih =>
    intro k z hk hm
    refine aw_iload_6 dL_recipe_71 ?_
    refine aw_iload_5 dL_recipe_73 ?_
    refine aw_icmp_ge (tgt := 192) dL_recipe_75 (by decide) (fun c75 => ?_) (fun c75 => ?_)
    · refine aw_cF (F' := fT F χ (pRcT a b (F (χ + 40)))) (by unfold pRcT; rw [zend (n := 1 + pLw b 3) hk (by omega) c75]) ?_
      refine aw_aload_0 dL_recipe_192 ?_
      refine aw_runA (zRun_V hr gL_recipe_X6_recipe q_X6_recipe rfl (by show _ < 7; decide) rfl hs rfl rfl (Nat.le_of_ble_eq_true rfl) dL_recipe_193 ⟨Nat.le_of_eq (Nat.zero_add _), Nat.le_of_eq (Nat.zero_add _)⟩) ⟨fun j hj => by simp at hj; subst hj; exact Or.inl (by rw [hs]; exact Option.some_ne_none _), fun j hj => by cases hj⟩ (fun ρ => ?_)
      exact aw_ireturn rfl dL_recipe_196 ⟨Nat.le_of_eq (Nat.zero_add _), Nat.le_of_eq (Nat.zero_add _)⟩ (by first | rfl | simp [c75]) rfl rfl rfl
    · refine aw_iload_6 dL_recipe_78 ?_
      refine aw_if_le (tgt := 92) dL_recipe_80 (by decide) (fun c80 => ?_) (fun c80 => ?_)
      · refine aw_iload_3 dL_recipe_92 ?_
        refine aw_istore_3 dL_recipe_93 ?_
        refine aw_cF (F' := fT F χ (pRcA k (it (pRcB a b) k (pRc3 a (F (χ + 40)))))) (by unfold pRcA; first | rw [if_pos c80] | rw [if_neg c80]) ?_
        refine aw_iload_2 dL_recipe_94 ?_
        refine aw_iconst (v := 2) dL_recipe_95 (by decide) ?_
        refine aw_iload_6 dL_recipe_96 ?_
        refine aw_iadd dL_recipe_98 ?_
        refine aw_ishr dL_recipe_99 ?_
        refine aw_iconst (v := 3) dL_recipe_100 (by decide) ?_
        refine aw_run (zRun_S (c_L_low (m := 3) (by decide) (by decide)) (Or.inl gL_recipe_L_low) q_L_low (by show _ < 7; decide) rfl rfl (Nat.le_of_ble_eq_true rfl) dL_recipe_101 ⟨Nat.zero_le _, Nat.zero_le _⟩) ?_
        refine aw_if_le (tgt := 128) dL_recipe_104 (by decide) (fun c104 => ?_) (fun c104 => ?_)
        · refine aw_iload_3 dL_recipe_128 ?_
          refine aw_istore_3 dL_recipe_129 ?_
          refine aw_cF (F' := fT F χ (pRcN b k (pRcA k (it (pRcB a b) k (pRc3 a (F (χ + 40))))))) (by unfold pRcN; first | rw [if_pos c104] | rw [if_neg c104]) ?_
          refine aw_aload_0 dL_recipe_130 ?_
          refine aw_bipush (v := 97) dL_recipe_131 (by decide) ?_
          refine aw_iload_1 dL_recipe_133 ?_
          refine aw_bipush (v := 9) dL_recipe_134 (by decide) ?_
          refine aw_ishr dL_recipe_136 ?_
          refine aw_bipush (v := 9) dL_recipe_137 (by decide) ?_
          refine aw_run (zRun_S (c_L_low (m := 9) (by decide) (by decide)) (Or.inl gL_recipe_L_low) q_L_low (by show _ < 7; decide) rfl rfl (Nat.le_of_ble_eq_true rfl) dL_recipe_139 ⟨Nat.zero_le _, Nat.zero_le _⟩) ?_
          refine aw_if_ne (tgt := 159) dL_recipe_142 (by decide) (fun c142 => ?_) (fun c142 => ?_)
          · refine aw_iload_4 dL_recipe_159 ?_
            refine aw_iconst (v := 1) dL_recipe_161 (by decide) ?_
            refine aw_iadd dL_recipe_162 ?_
            refine aw_iload_2 dL_recipe_163 ?_
            refine aw_bipush (v := 11) dL_recipe_164 (by decide) ?_
            refine aw_iconst (v := 3) dL_recipe_166 (by decide) ?_
            refine aw_iload_6 dL_recipe_167 ?_
            refine aw_imul dL_recipe_169 ?_
            refine aw_iadd dL_recipe_170 ?_
            refine aw_ishr dL_recipe_171 ?_
            refine aw_bipush (v := 19) dL_recipe_172 (by decide) ?_
            refine aw_iload_4 dL_recipe_174 ?_
            refine aw_isub dL_recipe_176 ?_
            refine aw_top (x' := nI (19 - pLw a 12)) (pk_sub (a := 19) (by omega)).symm ?_
            refine aw_run (zRun_S (c_L_low (m := 19 - pLw a 12) (by omega) (by omega)) (Or.inl gL_recipe_L_low) q_L_low (by show _ < 7; decide) rfl rfl (Nat.le_of_ble_eq_true rfl) dL_recipe_177 ⟨Nat.zero_le _, Nat.zero_le _⟩) ?_
            refine aw_iadd dL_recipe_180 ?_
            refine aw_top (x' := pRcL a b k) (by unfold pRcL; first | rw [if_pos c142] | rw [if_neg c142]) ?_
            refine aw_iadd dL_recipe_181 ?_
            obtain ⟨z6, m6⟩ := a_write (F := F) hY (97 + pRcL a b k) (pRcN b k (pRcA k (it (pRcB a b) k (pRc3 a (F (χ + 40))))))
            refine aw_run (zRun_V m6 gL_recipe_X6_write q_X6_write rfl (by show _ < 7; decide) rfl hs rfl rfl (Nat.le_of_ble_eq_true rfl) dL_recipe_182 ⟨Nat.zero_le _, Nat.zero_le _⟩) ?_
            refine aw_istore_3 dL_recipe_185 ?_
            refine aw_iinc_6 (v := 1) (by decide) dL_recipe_186 ?_
            refine aw_goto (tgt := 71) dL_recipe_189 (by decide) ?_
            have hlt := zlt (n := 1 + pLw b 3) hk (by omega) c75
            rw [nI_1]
            refine aw_cF (F' := fT F χ (it (pRcB a b) (k + 1) (pRc3 a (F (χ + 40))))) rfl ?_
            exact ih (1 + pLw b 3 - (k + 1)) (by omega) (k + 1) _ (by omega) rfl
          · refine aw_iload_2 dL_recipe_145 ?_
            refine aw_iconst (v := 3) dL_recipe_146 (by decide) ?_
            refine aw_iload_6 dL_recipe_147 ?_
            refine aw_imul dL_recipe_149 ?_
            refine aw_ishr dL_recipe_150 ?_
            refine aw_bipush (v := 20) dL_recipe_151 (by decide) ?_
            refine aw_run (zRun_S (c_L_low (m := 20) (by decide) (by decide)) (Or.inl gL_recipe_L_low) q_L_low (by show _ < 7; decide) rfl rfl (Nat.le_of_ble_eq_true rfl) dL_recipe_153 ⟨Nat.zero_le _, Nat.zero_le _⟩) ?_
            refine aw_goto (tgt := 181) dL_recipe_156 (by decide) ?_
            refine aw_top (x' := pRcL a b k) (by unfold pRcL; first | rw [if_pos c142] | rw [if_neg c142]) ?_
            refine aw_iadd dL_recipe_181 ?_
            obtain ⟨z6, m6⟩ := a_write (F := F) hY (97 + pRcL a b k) (pRcN b k (pRcA k (it (pRcB a b) k (pRc3 a (F (χ + 40))))))
            refine aw_run (zRun_V m6 gL_recipe_X6_write q_X6_write rfl (by show _ < 7; decide) rfl hs rfl rfl (Nat.le_of_ble_eq_true rfl) dL_recipe_182 ⟨Nat.zero_le _, Nat.zero_le _⟩) ?_
            refine aw_istore_3 dL_recipe_185 ?_
            refine aw_iinc_6 (v := 1) (by decide) dL_recipe_186 ?_
            refine aw_goto (tgt := 71) dL_recipe_189 (by decide) ?_
            have hlt := zlt (n := 1 + pLw b 3) hk (by omega) c75
            rw [nI_1]
            refine aw_cF (F' := fT F χ (it (pRcB a b) (k + 1) (pRc3 a (F (χ + 40))))) rfl ?_
            exact ih (1 + pLw b 3 - (k + 1)) (by omega) (k + 1) _ (by omega) rfl
        · refine aw_aload_0 dL_recipe_107 ?_
          refine aw_iconst (v := 1) dL_recipe_108 (by decide) ?_
          refine aw_iload_2 dL_recipe_109 ?_
          refine aw_iconst (v := 5) dL_recipe_110 (by decide) ?_
          refine aw_iconst (v := 2) dL_recipe_111 (by decide) ?_
          refine aw_iload_6 dL_recipe_112 ?_
          refine aw_imul dL_recipe_114 ?_
          refine aw_iadd dL_recipe_115 ?_
          refine aw_ishr dL_recipe_116 ?_
          refine aw_iconst (v := 5) dL_recipe_117 (by decide) ?_
          refine aw_run (zRun_S (c_L_low (m := 5) (by decide) (by decide)) (Or.inl gL_recipe_L_low) q_L_low (by show _ < 7; decide) rfl rfl (Nat.le_of_ble_eq_true rfl) dL_recipe_118 ⟨Nat.zero_le _, Nat.zero_le _⟩) ?_
          refine aw_iadd dL_recipe_121 ?_
          refine aw_top (x' := nI (1 + pLw (b >>> ((5 + 2 * nI k) &&& 31)) 5)) (nI_add 1 _).symm ?_
          obtain ⟨z5, m5⟩ := a_write (F := F) hY (48 + nI (1 + pLw (b >>> ((5 + 2 * nI k) &&& 31)) 5)) (pRcA k (it (pRcB a b) k (pRc3 a (F (χ + 40)))))
          refine aw_run (zRun_S (c_L_number (by have := pLw_lt (v := b >>> ((5 + 2 * nI k) &&& 31)) (m := 5) (by decide); omega) hs m5) (Or.inl gL_recipe_L_number) q_L_number (by show _ < 7; decide) rfl rfl (Nat.le_of_ble_eq_true rfl) dL_recipe_122 ⟨Nat.zero_le _, Nat.zero_le _⟩) ?_
          refine aw_goto (tgt := 129) dL_recipe_125 (by decide) ?_
          refine aw_istore_3 dL_recipe_129 ?_
          refine aw_cF (F' := fT F χ (pRcN b k (pRcA k (it (pRcB a b) k (pRc3 a (F (χ + 40))))))) (by unfold pRcN; first | rw [if_pos c104] | rw [if_neg c104]) ?_
          refine aw_aload_0 dL_recipe_130 ?_
          refine aw_bipush (v := 97) dL_recipe_131 (by decide) ?_
          refine aw_iload_1 dL_recipe_133 ?_
          refine aw_bipush (v := 9) dL_recipe_134 (by decide) ?_
          refine aw_ishr dL_recipe_136 ?_
          refine aw_bipush (v := 9) dL_recipe_137 (by decide) ?_
          refine aw_run (zRun_S (c_L_low (m := 9) (by decide) (by decide)) (Or.inl gL_recipe_L_low) q_L_low (by show _ < 7; decide) rfl rfl (Nat.le_of_ble_eq_true rfl) dL_recipe_139 ⟨Nat.zero_le _, Nat.zero_le _⟩) ?_
          refine aw_if_ne (tgt := 159) dL_recipe_142 (by decide) (fun c142 => ?_) (fun c142 => ?_)
          · refine aw_iload_4 dL_recipe_159 ?_
            refine aw_iconst (v := 1) dL_recipe_161 (by decide) ?_
            refine aw_iadd dL_recipe_162 ?_
            refine aw_iload_2 dL_recipe_163 ?_
            refine aw_bipush (v := 11) dL_recipe_164 (by decide) ?_
            refine aw_iconst (v := 3) dL_recipe_166 (by decide) ?_
            refine aw_iload_6 dL_recipe_167 ?_
            refine aw_imul dL_recipe_169 ?_
            refine aw_iadd dL_recipe_170 ?_
            refine aw_ishr dL_recipe_171 ?_
            refine aw_bipush (v := 19) dL_recipe_172 (by decide) ?_
            refine aw_iload_4 dL_recipe_174 ?_
            refine aw_isub dL_recipe_176 ?_
            refine aw_top (x' := nI (19 - pLw a 12)) (pk_sub (a := 19) (by omega)).symm ?_
            refine aw_run (zRun_S (c_L_low (m := 19 - pLw a 12) (by omega) (by omega)) (Or.inl gL_recipe_L_low) q_L_low (by show _ < 7; decide) rfl rfl (Nat.le_of_ble_eq_true rfl) dL_recipe_177 ⟨Nat.zero_le _, Nat.zero_le _⟩) ?_
            refine aw_iadd dL_recipe_180 ?_
            refine aw_top (x' := pRcL a b k) (by unfold pRcL; first | rw [if_pos c142] | rw [if_neg c142]) ?_
            refine aw_iadd dL_recipe_181 ?_
            obtain ⟨z6, m6⟩ := a_write (F := F) hY (97 + pRcL a b k) (pRcN b k (pRcA k (it (pRcB a b) k (pRc3 a (F (χ + 40))))))
            refine aw_run (zRun_V m6 gL_recipe_X6_write q_X6_write rfl (by show _ < 7; decide) rfl hs rfl rfl (Nat.le_of_ble_eq_true rfl) dL_recipe_182 ⟨Nat.zero_le _, Nat.zero_le _⟩) ?_
            refine aw_istore_3 dL_recipe_185 ?_
            refine aw_iinc_6 (v := 1) (by decide) dL_recipe_186 ?_
            refine aw_goto (tgt := 71) dL_recipe_189 (by decide) ?_
            have hlt := zlt (n := 1 + pLw b 3) hk (by omega) c75
            rw [nI_1]
            refine aw_cF (F' := fT F χ (it (pRcB a b) (k + 1) (pRc3 a (F (χ + 40))))) rfl ?_
            exact ih (1 + pLw b 3 - (k + 1)) (by omega) (k + 1) _ (by omega) rfl
          · refine aw_iload_2 dL_recipe_145 ?_
            refine aw_iconst (v := 3) dL_recipe_146 (by decide) ?_
            refine aw_iload_6 dL_recipe_147 ?_
            refine aw_imul dL_recipe_149 ?_
            refine aw_ishr dL_recipe_150 ?_
            refine aw_bipush (v := 20) dL_recipe_151 (by decide) ?_
            refine aw_run (zRun_S (c_L_low (m := 20) (by decide) (by decide)) (Or.inl gL_recipe_L_low) q_L_low (by show _ < 7; decide) rfl rfl (Nat.le_of_ble_eq_true rfl) dL_recipe_153 ⟨Nat.zero_le _, Nat.zero_le _⟩) ?_
            refine aw_goto (tgt := 181) dL_recipe_156 (by decide) ?_
            refine aw_top (x' := pRcL a b k) (by unfold pRcL; first | rw [if_pos c142] | rw [if_neg c142]) ?_
            refine aw_iadd dL_recipe_181 ?_
            obtain ⟨z6, m6⟩ := a_write (F := F) hY (97 + pRcL a b k) (pRcN b k (pRcA k (it (pRcB a b) k (pRc3 a (F (χ + 40))))))
            refine aw_run (zRun_V m6 gL_recipe_X6_write q_X6_write rfl (by show _ < 7; decide) rfl hs rfl rfl (Nat.le_of_ble_eq_true rfl) dL_recipe_182 ⟨Nat.zero_le _, Nat.zero_le _⟩) ?_
            refine aw_istore_3 dL_recipe_185 ?_
            refine aw_iinc_6 (v := 1) (by decide) dL_recipe_186 ?_
            refine aw_goto (tgt := 71) dL_recipe_189 (by decide) ?_
            have hlt := zlt (n := 1 + pLw b 3) hk (by omega) c75
            rw [nI_1]
            refine aw_cF (F' := fT F χ (it (pRcB a b) (k + 1) (pRc3 a (F (χ + 40))))) rfl ?_
            exact ih (1 + pLw b 3 - (k + 1)) (by omega) (k + 1) _ (by omega) rfl
      · obtain ⟨z4, m4⟩ := a_write (F := F) hY (43) (it (pRcB a b) k (pRc3 a (F (χ + 40))))
        refine aw_aload_0 dL_recipe_83 ?_
        refine aw_bipush (v := 43) dL_recipe_84 (by decide) ?_
        refine aw_run (zRun_V m4 gL_recipe_X6_write q_X6_write rfl (by show _ < 7; decide) rfl hs rfl rfl (Nat.le_of_ble_eq_true rfl) dL_recipe_86 ⟨Nat.zero_le _, Nat.zero_le _⟩) ?_
        refine aw_goto (tgt := 93) dL_recipe_89 (by decide) ?_
        refine aw_istore_3 dL_recipe_93 ?_
        refine aw_cF (F' := fT F χ (pRcA k (it (pRcB a b) k (pRc3 a (F (χ + 40)))))) (by unfold pRcA; first | rw [if_pos c80] | rw [if_neg c80]) ?_
        refine aw_iload_2 dL_recipe_94 ?_
        refine aw_iconst (v := 2) dL_recipe_95 (by decide) ?_
        refine aw_iload_6 dL_recipe_96 ?_
        refine aw_iadd dL_recipe_98 ?_
        refine aw_ishr dL_recipe_99 ?_
        refine aw_iconst (v := 3) dL_recipe_100 (by decide) ?_
        refine aw_run (zRun_S (c_L_low (m := 3) (by decide) (by decide)) (Or.inl gL_recipe_L_low) q_L_low (by show _ < 7; decide) rfl rfl (Nat.le_of_ble_eq_true rfl) dL_recipe_101 ⟨Nat.zero_le _, Nat.zero_le _⟩) ?_
        refine aw_if_le (tgt := 128) dL_recipe_104 (by decide) (fun c104 => ?_) (fun c104 => ?_)
        · refine aw_iload_3 dL_recipe_128 ?_
          refine aw_istore_3 dL_recipe_129 ?_
          refine aw_cF (F' := fT F χ (pRcN b k (pRcA k (it (pRcB a b) k (pRc3 a (F (χ + 40))))))) (by unfold pRcN; first | rw [if_pos c104] | rw [if_neg c104]) ?_
          refine aw_aload_0 dL_recipe_130 ?_
          refine aw_bipush (v := 97) dL_recipe_131 (by decide) ?_
          refine aw_iload_1 dL_recipe_133 ?_
          refine aw_bipush (v := 9) dL_recipe_134 (by decide) ?_
          refine aw_ishr dL_recipe_136 ?_
          refine aw_bipush (v := 9) dL_recipe_137 (by decide) ?_
          refine aw_run (zRun_S (c_L_low (m := 9) (by decide) (by decide)) (Or.inl gL_recipe_L_low) q_L_low (by show _ < 7; decide) rfl rfl (Nat.le_of_ble_eq_true rfl) dL_recipe_139 ⟨Nat.zero_le _, Nat.zero_le _⟩) ?_
          refine aw_if_ne (tgt := 159) dL_recipe_142 (by decide) (fun c142 => ?_) (fun c142 => ?_)
          · refine aw_iload_4 dL_recipe_159 ?_
            refine aw_iconst (v := 1) dL_recipe_161 (by decide) ?_
            refine aw_iadd dL_recipe_162 ?_
            refine aw_iload_2 dL_recipe_163 ?_
            refine aw_bipush (v := 11) dL_recipe_164 (by decide) ?_
            refine aw_iconst (v := 3) dL_recipe_166 (by decide) ?_
            refine aw_iload_6 dL_recipe_167 ?_
            refine aw_imul dL_recipe_169 ?_
            refine aw_iadd dL_recipe_170 ?_
            refine aw_ishr dL_recipe_171 ?_
            refine aw_bipush (v := 19) dL_recipe_172 (by decide) ?_
            refine aw_iload_4 dL_recipe_174 ?_
            refine aw_isub dL_recipe_176 ?_
            refine aw_top (x' := nI (19 - pLw a 12)) (pk_sub (a := 19) (by omega)).symm ?_
            refine aw_run (zRun_S (c_L_low (m := 19 - pLw a 12) (by omega) (by omega)) (Or.inl gL_recipe_L_low) q_L_low (by show _ < 7; decide) rfl rfl (Nat.le_of_ble_eq_true rfl) dL_recipe_177 ⟨Nat.zero_le _, Nat.zero_le _⟩) ?_
            refine aw_iadd dL_recipe_180 ?_
            refine aw_top (x' := pRcL a b k) (by unfold pRcL; first | rw [if_pos c142] | rw [if_neg c142]) ?_
            refine aw_iadd dL_recipe_181 ?_
            obtain ⟨z6, m6⟩ := a_write (F := F) hY (97 + pRcL a b k) (pRcN b k (pRcA k (it (pRcB a b) k (pRc3 a (F (χ + 40))))))
            refine aw_run (zRun_V m6 gL_recipe_X6_write q_X6_write rfl (by show _ < 7; decide) rfl hs rfl rfl (Nat.le_of_ble_eq_true rfl) dL_recipe_182 ⟨Nat.zero_le _, Nat.zero_le _⟩) ?_
            refine aw_istore_3 dL_recipe_185 ?_
            refine aw_iinc_6 (v := 1) (by decide) dL_recipe_186 ?_
            refine aw_goto (tgt := 71) dL_recipe_189 (by decide) ?_
            have hlt := zlt (n := 1 + pLw b 3) hk (by omega) c75
            rw [nI_1]
            refine aw_cF (F' := fT F χ (it (pRcB a b) (k + 1) (pRc3 a (F (χ + 40))))) rfl ?_
            exact ih (1 + pLw b 3 - (k + 1)) (by omega) (k + 1) _ (by omega) rfl
          · refine aw_iload_2 dL_recipe_145 ?_
            refine aw_iconst (v := 3) dL_recipe_146 (by decide) ?_
            refine aw_iload_6 dL_recipe_147 ?_
            refine aw_imul dL_recipe_149 ?_
            refine aw_ishr dL_recipe_150 ?_
            refine aw_bipush (v := 20) dL_recipe_151 (by decide) ?_
            refine aw_run (zRun_S (c_L_low (m := 20) (by decide) (by decide)) (Or.inl gL_recipe_L_low) q_L_low (by show _ < 7; decide) rfl rfl (Nat.le_of_ble_eq_true rfl) dL_recipe_153 ⟨Nat.zero_le _, Nat.zero_le _⟩) ?_
            refine aw_goto (tgt := 181) dL_recipe_156 (by decide) ?_
            refine aw_top (x' := pRcL a b k) (by unfold pRcL; first | rw [if_pos c142] | rw [if_neg c142]) ?_
            refine aw_iadd dL_recipe_181 ?_
            obtain ⟨z6, m6⟩ := a_write (F := F) hY (97 + pRcL a b k) (pRcN b k (pRcA k (it (pRcB a b) k (pRc3 a (F (χ + 40))))))
            refine aw_run (zRun_V m6 gL_recipe_X6_write q_X6_write rfl (by show _ < 7; decide) rfl hs rfl rfl (Nat.le_of_ble_eq_true rfl) dL_recipe_182 ⟨Nat.zero_le _, Nat.zero_le _⟩) ?_
            refine aw_istore_3 dL_recipe_185 ?_
            refine aw_iinc_6 (v := 1) (by decide) dL_recipe_186 ?_
            refine aw_goto (tgt := 71) dL_recipe_189 (by decide) ?_
            have hlt := zlt (n := 1 + pLw b 3) hk (by omega) c75
            rw [nI_1]
            refine aw_cF (F' := fT F χ (it (pRcB a b) (k + 1) (pRc3 a (F (χ + 40))))) rfl ?_
            exact ih (1 + pLw b 3 - (k + 1)) (by omega) (k + 1) _ (by omega) rfl
        · refine aw_aload_0 dL_recipe_107 ?_
          refine aw_iconst (v := 1) dL_recipe_108 (by decide) ?_
          refine aw_iload_2 dL_recipe_109 ?_
          refine aw_iconst (v := 5) dL_recipe_110 (by decide) ?_
          refine aw_iconst (v := 2) dL_recipe_111 (by decide) ?_
          refine aw_iload_6 dL_recipe_112 ?_
          refine aw_imul dL_recipe_114 ?_
          refine aw_iadd dL_recipe_115 ?_
          refine aw_ishr dL_recipe_116 ?_
          refine aw_iconst (v := 5) dL_recipe_117 (by decide) ?_
          refine aw_run (zRun_S (c_L_low (m := 5) (by decide) (by decide)) (Or.inl gL_recipe_L_low) q_L_low (by show _ < 7; decide) rfl rfl (Nat.le_of_ble_eq_true rfl) dL_recipe_118 ⟨Nat.zero_le _, Nat.zero_le _⟩) ?_
          refine aw_iadd dL_recipe_121 ?_
          refine aw_top (x' := nI (1 + pLw (b >>> ((5 + 2 * nI k) &&& 31)) 5)) (nI_add 1 _).symm ?_
          obtain ⟨z5, m5⟩ := a_write (F := F) hY (48 + nI (1 + pLw (b >>> ((5 + 2 * nI k) &&& 31)) 5)) (pRcA k (it (pRcB a b) k (pRc3 a (F (χ + 40)))))
          refine aw_run (zRun_S (c_L_number (by have := pLw_lt (v := b >>> ((5 + 2 * nI k) &&& 31)) (m := 5) (by decide); omega) hs m5) (Or.inl gL_recipe_L_number) q_L_number (by show _ < 7; decide) rfl rfl (Nat.le_of_ble_eq_true rfl) dL_recipe_122 ⟨Nat.zero_le _, Nat.zero_le _⟩) ?_
          refine aw_goto (tgt := 129) dL_recipe_125 (by decide) ?_
          refine aw_istore_3 dL_recipe_129 ?_
          refine aw_cF (F' := fT F χ (pRcN b k (pRcA k (it (pRcB a b) k (pRc3 a (F (χ + 40))))))) (by unfold pRcN; first | rw [if_pos c104] | rw [if_neg c104]) ?_
          refine aw_aload_0 dL_recipe_130 ?_
          refine aw_bipush (v := 97) dL_recipe_131 (by decide) ?_
          refine aw_iload_1 dL_recipe_133 ?_
          refine aw_bipush (v := 9) dL_recipe_134 (by decide) ?_
          refine aw_ishr dL_recipe_136 ?_
          refine aw_bipush (v := 9) dL_recipe_137 (by decide) ?_
          refine aw_run (zRun_S (c_L_low (m := 9) (by decide) (by decide)) (Or.inl gL_recipe_L_low) q_L_low (by show _ < 7; decide) rfl rfl (Nat.le_of_ble_eq_true rfl) dL_recipe_139 ⟨Nat.zero_le _, Nat.zero_le _⟩) ?_
          refine aw_if_ne (tgt := 159) dL_recipe_142 (by decide) (fun c142 => ?_) (fun c142 => ?_)
          · refine aw_iload_4 dL_recipe_159 ?_
            refine aw_iconst (v := 1) dL_recipe_161 (by decide) ?_
            refine aw_iadd dL_recipe_162 ?_
            refine aw_iload_2 dL_recipe_163 ?_
            refine aw_bipush (v := 11) dL_recipe_164 (by decide) ?_
            refine aw_iconst (v := 3) dL_recipe_166 (by decide) ?_
            refine aw_iload_6 dL_recipe_167 ?_
            refine aw_imul dL_recipe_169 ?_
            refine aw_iadd dL_recipe_170 ?_
            refine aw_ishr dL_recipe_171 ?_
            refine aw_bipush (v := 19) dL_recipe_172 (by decide) ?_
            refine aw_iload_4 dL_recipe_174 ?_
            refine aw_isub dL_recipe_176 ?_
            refine aw_top (x' := nI (19 - pLw a 12)) (pk_sub (a := 19) (by omega)).symm ?_
            refine aw_run (zRun_S (c_L_low (m := 19 - pLw a 12) (by omega) (by omega)) (Or.inl gL_recipe_L_low) q_L_low (by show _ < 7; decide) rfl rfl (Nat.le_of_ble_eq_true rfl) dL_recipe_177 ⟨Nat.zero_le _, Nat.zero_le _⟩) ?_
            refine aw_iadd dL_recipe_180 ?_
            refine aw_top (x' := pRcL a b k) (by unfold pRcL; first | rw [if_pos c142] | rw [if_neg c142]) ?_
            refine aw_iadd dL_recipe_181 ?_
            obtain ⟨z6, m6⟩ := a_write (F := F) hY (97 + pRcL a b k) (pRcN b k (pRcA k (it (pRcB a b) k (pRc3 a (F (χ + 40))))))
            refine aw_run (zRun_V m6 gL_recipe_X6_write q_X6_write rfl (by show _ < 7; decide) rfl hs rfl rfl (Nat.le_of_ble_eq_true rfl) dL_recipe_182 ⟨Nat.zero_le _, Nat.zero_le _⟩) ?_
            refine aw_istore_3 dL_recipe_185 ?_
            refine aw_iinc_6 (v := 1) (by decide) dL_recipe_186 ?_
            refine aw_goto (tgt := 71) dL_recipe_189 (by decide) ?_
            have hlt := zlt (n := 1 + pLw b 3) hk (by omega) c75
            rw [nI_1]
            refine aw_cF (F' := fT F χ (it (pRcB a b) (k + 1) (pRc3 a (F (χ + 40))))) rfl ?_
            exact ih (1 + pLw b 3 - (k + 1)) (by omega) (k + 1) _ (by omega) rfl
          · refine aw_iload_2 dL_recipe_145 ?_
            refine aw_iconst (v := 3) dL_recipe_146 (by decide) ?_
            refine aw_iload_6 dL_recipe_147 ?_
            refine aw_imul dL_recipe_149 ?_
            refine aw_ishr dL_recipe_150 ?_
            refine aw_bipush (v := 20) dL_recipe_151 (by decide) ?_
            refine aw_run (zRun_S (c_L_low (m := 20) (by decide) (by decide)) (Or.inl gL_recipe_L_low) q_L_low (by show _ < 7; decide) rfl rfl (Nat.le_of_ble_eq_true rfl) dL_recipe_153 ⟨Nat.zero_le _, Nat.zero_le _⟩) ?_
            refine aw_goto (tgt := 181) dL_recipe_156 (by decide) ?_
            refine aw_top (x' := pRcL a b k) (by unfold pRcL; first | rw [if_pos c142] | rw [if_neg c142]) ?_
            refine aw_iadd dL_recipe_181 ?_
            obtain ⟨z6, m6⟩ := a_write (F := F) hY (97 + pRcL a b k) (pRcN b k (pRcA k (it (pRcB a b) k (pRc3 a (F (χ + 40))))))
            refine aw_run (zRun_V m6 gL_recipe_X6_write q_X6_write rfl (by show _ < 7; decide) rfl hs rfl rfl (Nat.le_of_ble_eq_true rfl) dL_recipe_182 ⟨Nat.zero_le _, Nat.zero_le _⟩) ?_
            refine aw_istore_3 dL_recipe_185 ?_
            refine aw_iinc_6 (v := 1) (by decide) dL_recipe_186 ?_
            refine aw_goto (tgt := 71) dL_recipe_189 (by decide) ?_
            have hlt := zlt (n := 1 + pLw b 3) hk (by omega) c75
            rw [nI_1]
            refine aw_cF (F' := fT F χ (it (pRcB a b) (k + 1) (pRc3 a (F (χ + 40))))) rfl ?_
            exact ih (1 + pLw b 3 - (k + 1)) (by omega) (k + 1) _ (by omega) rfl
  have L51 : ∀ (z x : Int32) (o5 o6 : Option Value), AW (mL_recipe mc ms) X (zMQ (mL_recipe mc ms) X (some (.int z0)) sh' F' P') 51 [some (.ref χ), some (.int a), some (.int b), some (.int z), some (.int (nI (pLw a 12))), o5, o6] [.int x] ρ sh (fT F χ (pRc2 a (pRc1 a (F (χ + 40))))) P 0 0 := by
    intro z x o5 o6
    obtain ⟨z3, m3⟩ := a_write (F := F) hY (61) (pRc2 a (pRc1 a (F (χ + 40))))
    refine aw_istore_3 dL_recipe_51 ?_
    refine aw_aload_0 dL_recipe_52 ?_
    refine aw_bipush (v := 61) dL_recipe_53 (by decide) ?_
    refine aw_run (zRun_V m3 gL_recipe_X6_write q_X6_write rfl (by show _ < 7; decide) rfl hs rfl rfl (Nat.le_of_ble_eq_true rfl) dL_recipe_55 ⟨Nat.zero_le _, Nat.zero_le _⟩) ?_
    refine aw_istore_3 dL_recipe_58 ?_
    refine aw_iconst (v := 1) dL_recipe_59 (by decide) ?_
    refine aw_iload_2 dL_recipe_60 ?_
    refine aw_iconst (v := 3) dL_recipe_61 (by decide) ?_
    refine aw_run (zRun_S (c_L_low (m := 3) (by decide) (by decide)) (Or.inl gL_recipe_L_low) q_L_low (by show _ < 7; decide) rfl rfl (Nat.le_of_ble_eq_true rfl) dL_recipe_62 ⟨Nat.zero_le _, Nat.zero_le _⟩) ?_
    refine aw_iadd dL_recipe_65 ?_
    refine aw_top (x' := nI (1 + pLw b 3)) (nI_add 1 _).symm ?_
    refine aw_istore_5 dL_recipe_66 ?_
    refine aw_iconst (v := 0) dL_recipe_68 (by decide) ?_
    refine aw_istore_6 dL_recipe_69 ?_
    exact L71 _ 0 _ (Nat.zero_le _) rfl
  refine aw_aload_0 dL_recipe_0 ?_
  refine aw_run (zRun_V (c_X6_wipe (F := F) hY) gL_recipe_X6_wipe q_X6_wipe rfl (by show _ < 7; decide) rfl hs rfl rfl (Nat.le_of_ble_eq_true rfl) dL_recipe_1 ⟨Nat.zero_le _, Nat.zero_le _⟩) ?_
  rw [fT_0]
  refine aw_istore_3 dL_recipe_4 ?_
  refine aw_iload_1 dL_recipe_5 ?_
  refine aw_bipush (v := 12) dL_recipe_6 (by decide) ?_
  refine aw_run (zRun_S (c_L_low (m := 12) (by decide) (by decide)) (Or.inl gL_recipe_L_low) q_L_low (by show _ < 7; decide) rfl rfl (Nat.le_of_ble_eq_true rfl) dL_recipe_8 ⟨Nat.zero_le _, Nat.zero_le _⟩) ?_
  refine aw_istore_4 dL_recipe_11 ?_
  obtain ⟨z1, m1⟩ := a_write (F := F) hY (97 + nI (pLw a 12)) (F (χ + 40), 0)
  refine aw_aload_0 dL_recipe_13 ?_
  refine aw_bipush (v := 97) dL_recipe_14 (by decide) ?_
  refine aw_iload_4 dL_recipe_16 ?_
  refine aw_iadd dL_recipe_18 ?_
  refine aw_run (zRun_V m1 gL_recipe_X6_write q_X6_write rfl (by show _ < 7; decide) rfl hs rfl rfl (Nat.le_of_ble_eq_true rfl) dL_recipe_19 ⟨Nat.zero_le _, Nat.zero_le _⟩) ?_
  refine aw_istore_3 dL_recipe_22 ?_
  refine aw_iload_1 dL_recipe_23 ?_
  refine aw_iconst (v := 4) dL_recipe_24 (by decide) ?_
  refine aw_ishr dL_recipe_25 ?_
  refine aw_iconst (v := 2) dL_recipe_26 (by decide) ?_
  refine aw_run (zRun_S (c_L_low (m := 2) (by decide) (by decide)) (Or.inl gL_recipe_L_low) q_L_low (by show _ < 7; decide) rfl rfl (Nat.le_of_ble_eq_true rfl) dL_recipe_27 ⟨Nat.zero_le _, Nat.zero_le _⟩) ?_
  refine aw_if_ne (tgt := 50) dL_recipe_30 (by decide) (fun c30 => ?_) (fun c30 => ?_)
  · refine aw_iload_3 dL_recipe_50 ?_
    refine aw_cF (F' := fT F χ (pRc2 a (pRc1 a (F (χ + 40))))) (by unfold pRc2; (first | rw [if_pos c30] | rw [if_neg c30]); try rfl) ?_
    exact L51 _ _ _ _
  · refine aw_aload_0 dL_recipe_33 ?_
    refine aw_iconst (v := 1) dL_recipe_34 (by decide) ?_
    refine aw_iload_1 dL_recipe_35 ?_
    refine aw_iconst (v := 5) dL_recipe_36 (by decide) ?_
    refine aw_ishr dL_recipe_37 ?_
    refine aw_bipush (v := 6) dL_recipe_38 (by decide) ?_
    refine aw_run (zRun_S (c_L_low (m := 6) (by decide) (by decide)) (Or.inl gL_recipe_L_low) q_L_low (by show _ < 7; decide) rfl rfl (Nat.le_of_ble_eq_true rfl) dL_recipe_40 ⟨Nat.zero_le _, Nat.zero_le _⟩) ?_
    refine aw_iadd dL_recipe_43 ?_
    refine aw_top (x' := nI (1 + pLw (a >>> ((5 : Int32) &&& 31)) 6)) (nI_add 1 _).symm ?_
    obtain ⟨z2, m2⟩ := a_write (F := F) hY (48 + nI (1 + pLw (a >>> ((5 : Int32) &&& 31)) 6)) (pRc1 a (F (χ + 40)))
    refine aw_run (zRun_S (c_L_number (by have := pLw_lt (v := a >>> (5 &&& 31)) (m := 6) (by decide); omega) hs m2) (Or.inl gL_recipe_L_number) q_L_number (by show _ < 7; decide) rfl rfl (Nat.le_of_ble_eq_true rfl) dL_recipe_44 ⟨Nat.zero_le _, Nat.zero_le _⟩) ?_
    refine aw_goto (tgt := 51) dL_recipe_47 (by decide) ?_
    refine aw_cF (F' := fT F χ (pRc2 a (pRc1 a (F (χ + 40))))) (by unfold pRc2; (first | rw [if_pos c30] | rw [if_neg c30]); try rfl) ?_
    exact L51 _ _ _ _

