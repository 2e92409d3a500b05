/-! ===== 80.lawL: the law's loop and its beginning ===== -/
abbrev lwM (nm : String) : ZM := (cL_law, RL, lw_tbl, 1398, 600000, 7302250, some .boolean, 6, nm)
theorem lw_ne {sh : zSh} {F : pM} {P : Nat → Nat → Option Nat} {χ : Nat} {v : pV} (h : pLI sh F P χ v) : sh χ ≠ none := by
  rw [h.1.1.1]
  exact Option.some_ne_none _
theorem lw_refs {sh sh' : zSh} {x3 x4 x5 : Int32} {st : List Value} (h1 : sh 1 ≠ none) (h2 : sh 300 ≠ none) (h0 : sh' 0 = none) (hst : ∀ j, ¬ Value.ref j ∈ st) : zrefs sh sh' [some (.ref 0), some (.ref 1), some (.ref 300), some (.int x3), some (.int x4), some (.int x5)] st := by
  refine ⟨fun j hj => ?_, fun j hj => absurd hj (hst j)⟩
  simp at hj
  rcases hj with rfl | rfl | rfl
  · exact Or.inr h0
  · exact Or.inl h1
  · exact Or.inl h2
section LLOOP
variable {nm : String} {X : ZX} {Q : State → Prop} {L : Nat} {xs : Nat → Int32}
set_option maxHeartbeats 1000000 in
set_option maxRecDepth 100000 in
theorem lw_loop (hX : lwX X L xs) (exit : ∀ (ls : List (Option Value)) (ρ : Nat → Nat) (sh : zSh) (F : pM) (P : Nat → Nat → Option Nat) (k n : Nat), k ≤ 600000 → n ≤ 7302250 → AW (lwM nm) X Q 166 ls [.int 1] ρ sh F P k n) :
    ∀ (m i : Nat) (o4 o5 : Option Value) (v : pV) (ρ : Nat → Nat) (sh : zSh) (F : pM) (P : Nat → Nat → Option Nat) (k n : Nat), i ≤ 40 → 40 - i = m → pLI sh F P 1 v → pLI sh F P 300 v → pInv v (70000 * i) → sh 0 = none → (∀ j, 1000 + 2 * i ≤ j → sh j = none) → k ≤ 82 + 70 * i → n ≤ 2194 + 2028 * i → AW (lwM nm) X Q 18 [some (.ref 0), some (.ref 1), some (.ref 300), some (.int (nI i)), o4, o5] [] ρ sh F P k n := by
  intro m
  induction m using Nat.strongRecOn with
  | _ m ih =>
  intro i o4 o5 v ρ sh F P k n hi hm hO hQ hI h0 hfr hk hn
  refine aw_iload_3 dL_law_18 ?_
  refine aw_bipush (v := 40) dL_law_19 (by decide) ?_
  refine aw_icmp_ge (tgt := 161) dL_law_21 (by decide) (fun c21 => ?_) (fun c21 => ?_)
  · refine aw_aload_1 dL_law_161 ?_
    refine aw_aload_2 dL_law_162 ?_
    have hi40 := zend (n := 40) hi (by decide) c21
    subst hi40
    obtain ⟨Fx, mx⟩ := a_areAlike hO hQ hI (by omega) (by omega)
    refine aw_run (zRun_S mx (Or.inl gL_law_L_areAlike) q_L_areAlike (by show _ < 1398; decide) rfl rfl (Nat.le_of_ble_eq_true rfl) dL_law_163 ⟨by show _ ≤ 600000; omega, by show _ ≤ 7302250; omega⟩) ?_
    exact exit _ _ _ _ _ _ _ (by omega) (by omega)
  · have hlt : i < 40 := zlt (n := 40) hi (by decide) c21
    refine aw_aload_0 dL_law_24 ?_
    refine aw_iconst (v := 2) dL_law_25 (by decide) ?_
    refine aw_iload_3 dL_law_26 ?_
    refine aw_imul dL_law_27 ?_
    refine aw_top (x' := nI (2 * i)) ((pk_mul 2 i).symm) ?_
    refine aw_cell hX h0 (by omega) gL_law_L_cell (by show 1 < 1398; decide) (Nat.le_of_ble_eq_true rfl) dL_law_28 ⟨by show _ ≤ 600000; omega, by show _ ≤ 7302250; omega⟩ ?_
    refine aw_istore_4 dL_law_31 ?_
    refine aw_aload_0 dL_law_33 ?_
    refine aw_iconst (v := 2) dL_law_34 (by decide) ?_
    refine aw_iload_3 dL_law_35 ?_
    refine aw_imul dL_law_36 ?_
    refine aw_iconst (v := 1) dL_law_37 (by decide) ?_
    refine aw_iadd dL_law_38 ?_
    refine aw_top (x' := nI (2 * i + 1)) ((by rw [← nI_1, ← pk_mul 2 i]; rfl)) ?_
    refine aw_cell hX h0 (by omega) gL_law_L_cell (by show 1 < 1398; decide) (Nat.le_of_ble_eq_true rfl) dL_law_39 ⟨by show _ ≤ 600000; omega, by show _ ≤ 7302250; omega⟩ ?_
    refine aw_istore_5 dL_law_42 ?_
    generalize pCl L xs (2 * i) = a
    generalize pCl L xs (2 * i + 1) = b
    refine aw_iload_4 dL_law_44 ?_
    have M75 : ∀ (v : pV) (ρ : Nat → Nat) (sh : zSh) (F : pM) (P : Nat → Nat → Option Nat) (k n : Nat), pLI sh F P 1 v → pLI sh F P 300 v → pInv v (70000 * i + 70000) → sh 0 = none → (∀ j, 1000 + 2 * i ≤ j → sh j = none) → k ≤ 82 + 70 * i + 34 → n ≤ 2194 + 2028 * i + 994 → AW (lwM nm) X Q 75 [some (.ref 0), some (.ref 1), some (.ref 300), some (.int (nI i)), some (.int a), some (.int b)] [] ρ sh F P k n := by
      intro v ρ sh F P k n hO hQ hI h0 hfr hk hn
      refine aw_aload_1 dL_law_75 ?_
      obtain ⟨⟨w, hB⟩, hS, -⟩ := id hI
      refine aw_run (zRun_S (c_L_areAccounts hO hB hS (by omega)) (Or.inl gL_law_L_areAccounts) q_L_areAccounts (by show _ < 1398; decide) rfl rfl (Nat.le_of_ble_eq_true rfl) dL_law_76 ⟨by show _ ≤ 600000; omega, by show _ ≤ 7302250; omega⟩) ?_
      refine aw_if_eq (tgt := 98) dL_law_79 (by decide) (fun c79 => absurd c79 (by decide)) (fun c79 => ?_)
      refine aw_aload_1 dL_law_82 ?_
      refine aw_iload_5 dL_law_83 ?_
      refine aw_iconst (v := 4) dL_law_85 (by decide) ?_
      refine aw_ishr dL_law_86 ?_
      refine aw_bipush (v := 20) dL_law_87 (by decide) ?_
      refine aw_run (zRun_S (c_L_low (m := 20) (by decide) (by decide)) (Or.inl gL_law_L_low) q_L_low (by show _ < 1398; decide) rfl rfl (Nat.le_of_ble_eq_true rfl) dL_law_89 ⟨by show _ ≤ 600000; omega, by show _ ≤ 7302250; omega⟩) ?_
      refine aw_run (zRun_S (c_L_isRanked hO hB (pLw_lt (by decide))) (Or.inl gL_law_L_isRanked) q_L_isRanked (by show _ < 1398; decide) rfl rfl (Nat.le_of_ble_eq_true rfl) dL_law_92 ⟨by show _ ≤ 600000; omega, by show _ ≤ 7302250; omega⟩) ?_
      refine aw_if_ne (tgt := 100) dL_law_95 (by decide) (fun c95 => ?_) (fun c95 => absurd c95 (by decide))
      refine aw_iload_3 dL_law_100 ?_
      refine aw_iconst (v := 5) dL_law_101 (by decide) ?_
      refine aw_irem (by decide) dL_law_102 ?_
      refine aw_iconst (v := 4) dL_law_103 (by decide) ?_
      refine aw_icmp_ne (tgt := 155) dL_law_104 (by decide) (fun c104 => ?_) (fun c104 => ?_)
      · refine aw_iinc_3 (v := 1) (by decide) dL_law_155 ?_
        refine aw_goto (tgt := 18) dL_law_158 (by decide) ?_
        rw [nI_1]
        exact ih (40 - (i + 1)) (by omega) (i + 1) _ _ v _ _ _ _ _ _ (by omega) rfl hO hQ (hI.more (by omega)) h0 (fun j hj => hfr j (by omega)) (by omega) (by omega)
      · refine aw_aload_1 dL_law_107 ?_
        refine aw_iload_5 dL_law_108 ?_
        refine aw_bipush (v := 7) dL_law_110 (by decide) ?_
        refine aw_ishr dL_law_112 ?_
        refine aw_bipush (v := 12) dL_law_113 (by decide) ?_
        refine aw_run (zRun_S (c_L_low (m := 12) (by decide) (by decide)) (Or.inl gL_law_L_low) q_L_low (by show _ < 1398; decide) rfl rfl (Nat.le_of_ble_eq_true rfl) dL_law_115 ⟨by show _ ≤ 600000; omega, by show _ ≤ 7302250; omega⟩) ?_
        refine aw_iconst (v := 1) dL_law_118 (by decide) ?_
        refine aw_iload_5 dL_law_119 ?_
        refine aw_bipush (v := 11) dL_law_121 (by decide) ?_
        refine aw_ishr dL_law_123 ?_
        refine aw_bipush (v := 80) dL_law_124 (by decide) ?_
        refine aw_run (zRun_S (c_L_low (m := 80) (by decide) (by decide)) (Or.inl gL_law_L_low) q_L_low (by show _ < 1398; decide) rfl rfl (Nat.le_of_ble_eq_true rfl) dL_law_126 ⟨by show _ ≤ 600000; omega, by show _ ≤ 7302250; omega⟩) ?_
        refine aw_iadd dL_law_129 ?_
        refine aw_top (x' := nI (1 + pLw (b >>> ((11 : Int32) &&& 31)) 80)) (nI_add 1 _).symm ?_
        have h80 : pLw (b >>> ((11 : Int32) &&& 31)) 80 < 80 := pLw_lt (by decide)
        refine aw_runE2 (zRun_SE (a_isWish (e1 := 1000 + 2 * i) (e2 := 1001 + 2 * i) hO hI (Nat.lt_trans (pLw_lt (by decide) : pLw (b >>> ((7 : Int32) &&& 31)) 12 < 12) (by decide)) (by omega) (by omega) (hfr _ (by omega)) (hfr _ (by omega)) (by omega) (by omega) (by omega)) gL_law_L_isWish q_L_isWish (by show _ < 1398; decide) rfl rfl (Nat.le_of_ble_eq_true rfl) dL_law_130 ⟨by show _ ≤ 600000; omega, by show _ ≤ 7302250; omega⟩) (fun r sh' F' P' hP => lw_refs (lw_ne hO) (lw_ne hQ) ((hP.2.2 0 (by omega) (by omega) (by omega)).1.trans h0) (fun j hj => by simp at hj)) (fun sh' F' P' hP => by cases hP.1) (fun r ρ shw Fw Pw hP => ?_)
        obtain ⟨er, hOw, hbw⟩ := hP
        cases er
        obtain ⟨Fc, qc, mc⟩ := a_lcanHave (t := pLw (a >>> ((9 : Int32) &&& 31)) 12) hOw hI (Nat.lt_trans (pLw_lt (by decide)) (by decide))
        refine aw_if_eq (tgt := 153) dL_law_133 (by decide) (fun c133 => absurd c133 (by decide)) (fun c133 => ?_)
        refine aw_aload_1 dL_law_136 ?_
        refine aw_iload_4 dL_law_137 ?_
        refine aw_bipush (v := 9) dL_law_139 (by decide) ?_
        refine aw_ishr dL_law_141 ?_
        refine aw_bipush (v := 12) dL_law_142 (by decide) ?_
        refine aw_run (zRun_S (c_L_low (m := 12) (by decide) (by decide)) (Or.inl gL_law_L_low) q_L_low (by show _ < 1398; decide) rfl rfl (Nat.le_of_ble_eq_true rfl) dL_law_144 ⟨by show _ ≤ 600000; omega, by show _ ≤ 7302250; omega⟩) ?_
        refine aw_run (zRun_S mc (Or.inl gL_law_L_canHave) q_L_canHave (by show _ < 1398; decide) rfl rfl (Nat.le_of_ble_eq_true rfl) dL_law_147 ⟨by show _ ≤ 600000; omega, by show _ ≤ 7302250; omega⟩) ?_
        refine aw_if_ne (tgt := 155) dL_law_150 (by decide) (fun c150 => ?_) (fun c150 => absurd c150 (by decide))
        refine aw_iinc_3 (v := 1) (by decide) dL_law_155 ?_
        refine aw_goto (tgt := 18) dL_law_158 (by decide) ?_
        rw [nI_1]
        exact ih (40 - (i + 1)) (by omega) (i + 1) _ _ v _ _ _ _ _ _ (by omega) rfl (hOw.q qc) (hQ.fr fun j hj => ⟨(hbw (300 + j) (by omega) (by omega) (by omega)).1, (qc (300 + j) (by omega)).trans (hbw (300 + j) (by omega) (by omega) (by omega)).2.1, (hbw (300 + j) (by omega) (by omega) (by omega)).2.2⟩) (hI.more (by omega)) ((hbw 0 (by omega) (by omega) (by omega)).1.trans h0) (fun j hj => (hbw j (by omega) (by omega) (by omega)).1.trans (hfr j (by omega))) (by omega) (by omega)
    refine aw_bipush (v := 22) dL_law_46 (by decide) ?_
    refine aw_run (zRun_S (c_L_low (m := 22) (by decide) (by decide)) (Or.inl gL_law_L_low) q_L_low (by show _ < 1398; decide) rfl rfl (Nat.le_of_ble_eq_true rfl) dL_law_48 ⟨by show _ ≤ 600000; omega, by show _ ≤ 7302250; omega⟩) ?_
    refine aw_bipush (v := 19) dL_law_51 (by decide) ?_
    refine aw_icmp_eq (tgt := 75) dL_law_53 (by decide) (fun c53 => ?_) (fun c53 => ?_)
    · exact M75 v _ _ _ _ _ _ hO hQ (hI.more (by omega)) h0 hfr (by omega) (by omega)
    · refine aw_aload_1 dL_law_56 ?_
      refine aw_iload_4 dL_law_57 ?_
      refine aw_iload_5 dL_law_59 ?_
      obtain ⟨z, v1, hc, hi⟩ := p_change hI (by omega) a b (fun e => c53 (by rw [e]; rfl))
      obtain ⟨mc1, ms1, sha, Fa, Pa, hc1, hs1, m1, hO1, hF1⟩ := hc sh F P 1 hO
      have hQ1 : pLI sha Fa Pa 300 v := hQ.fr fun j hj => hF1 _ (by omega)
      obtain ⟨mc2, ms2, shb, Fb, Pb, hc2, hs2, m2, hQ2, hF2⟩ := hc sha Fa Pa 300 hQ1
      have hO2 : pLI shb Fb Pb 1 v1 := hO1.fr fun j hj => hF2 _ (by omega)
      have ha0 : sha 0 = none := (hF1 0 (by omega)).1.trans h0
      have hb0 : shb 0 = none := (hF2 0 (by omega)).1.trans ha0
      have hfb : ∀ j, 1000 + 2 * i ≤ j → shb j = none := fun j hj => (hF2 j (by omega)).1.trans ((hF1 j (by omega)).1.trans (hfr j hj))
      refine aw_runA (zRun_S m1 (Or.inl gL_law_L_change) q_L_change (by show _ < 1398; decide) rfl rfl (Nat.le_of_ble_eq_true rfl) dL_law_61 ⟨by show _ ≤ 600000; omega, by show _ ≤ 7302250; omega⟩) (lw_refs (lw_ne hO) (lw_ne hQ) ha0 (fun j hj => by simp at hj)) (fun ρ => ?_)
      refine aw_aload_2 dL_law_64 ?_
      refine aw_iload_4 dL_law_65 ?_
      refine aw_iload_5 dL_law_67 ?_
      refine aw_runA (zRun_S m2 (Or.inl gL_law_L_change) q_L_change (by show _ < 1398; decide) rfl rfl (Nat.le_of_ble_eq_true rfl) dL_law_69 ⟨by show _ ≤ 600000; omega, by show _ ≤ 7302250; omega⟩) (lw_refs (lw_ne hO1) (lw_ne hQ1) hb0 (fun j hj => by simp at hj)) (fun ρ => ?_)
      refine aw_icmp_ne (tgt := 98) dL_law_72 (by decide) (fun c72 => absurd c72 (fun e => e rfl)) (fun c72 => ?_)
      exact M75 v1 _ _ _ _ _ _ hO2 hQ2 hi hb0 hfb (by omega) (by omega)
set_option maxRecDepth 20000 in
theorem lw_begin (hX : lwX X L xs) (exit : ∀ (ls : List (Option Value)) (ρ : Nat → Nat) (sh : zSh) (F : pM) (P : Nat → Nat → Option Nat) (k n : Nat), k ≤ 600000 → n ≤ 7302250 → AW (lwM nm) X Q 166 ls [.int 1] ρ sh F P k n) (ρ : Nat → Nat) :
    AW (lwM nm) X Q 0 [some (.ref 0), none, none, none, none, none] [] ρ (fun _ => none) F0z P0z 0 0 := by
  refine aw_new (i := 1) (C := RX6) (T := TX6) (N := 11) (ci := 6) rfl rfl tyX6_ok (by decide) lwf_X6 lwm_32 lwm_33 lwm_21 rfl ⟨fun j hj => ?_, fun j hj => by cases hj⟩ ⟨Nat.le_of_ble_eq_true rfl, Nat.le_of_ble_eq_true rfl⟩ dL_law_0 (fun ρ1 => ?_)
  · simp at hj
    subst hj
    exact Or.inr rfl
  refine aw_dup rfl dL_law_3 ?_
  refine aw_runAv (zRun_I (c_X6_init (sh := sh1) (F := F1z) (P := P1z) (χ := 1) rfl (fun j h1 h2 => ?_) rfl rfl) gL_law_X6_init lwm_21 lwm_34 lwm_35 rfl q_X6_init (show (3 : Nat) < 1398 by decide) rfl rfl (Nat.le_of_ble_eq_true rfl) dL_law_4 ⟨Nat.le_of_ble_eq_true rfl, Nat.le_of_ble_eq_true rfl⟩) ⟨fun j hj => ?_, fun j hj => ?_⟩ (fun ρ2 => ?_)
  · unfold sh1
    rw [zup_ne (by omega)]
  · simp at hj
    subst hj
    exact Or.inr rfl
  · simp at hj
    subst hj
    exact Or.inl (fun e => by cases e)
  refine aw_astore_1 dL_law_7 ?_
  refine aw_new (i := 300) (C := RX6) (T := TX6) (N := 11) (ci := 6) rfl rfl tyX6_ok (by decide) lwf_X6 lwm_32 lwm_33 lwm_21 ?_ ⟨fun j hj => ?_, fun j hj => by cases hj⟩ ⟨Nat.le_of_ble_eq_true rfl, Nat.le_of_ble_eq_true rfl⟩ dL_law_8 (fun ρ3 => ?_)
  · unfold iSh sh1
    simp (disch := omega) only [zup_ne, zwin_ne]
  · simp at hj
    rcases hj with rfl | rfl
    · exact Or.inr rfl
    · exact Or.inl (fun e => by cases e)
  refine aw_dup rfl dL_law_11 ?_
  refine aw_runAv (zRun_I (c_X6_init (sh := sh2) (F := F2z) (P := P2z) (χ := 300) rfl (fun j h1 h2 => ?_) rfl rfl) gL_law_X6_init lwm_21 lwm_34 lwm_35 rfl q_X6_init (show (3 : Nat) < 1398 by decide) rfl rfl (Nat.le_of_ble_eq_true rfl) dL_law_12 ⟨Nat.le_of_ble_eq_true rfl, Nat.le_of_ble_eq_true rfl⟩) ⟨fun j hj => ?_, fun j hj => ?_⟩ (fun ρ4 => ?_)
  · unfold sh2 iSh sh1
    simp (disch := omega) only [zup_ne, zwin_ne]
  · simp at hj
    rcases hj with rfl | rfl
    · exact Or.inr rfl
    · exact Or.inl (fun e => by cases e)
  · simp at hj
    subst hj
    exact Or.inl (fun e => by cases e)
  refine aw_astore_2 dL_law_15 ?_
  refine aw_iconst (v := nI 0) dL_law_16 (by decide) ?_
  refine aw_istore_3 dL_law_17 ?_
  exact lw_loop hX exit 40 0 _ _ v0 ρ4 sh3 F3z P3z _ _ (by omega) (by decide) z_begin.1 z_begin.2 z_inv (sh3_out (by omega)) (fun j hj => sh3_out (by omega)) (Nat.le_of_ble_eq_true rfl) (Nat.le_of_ble_eq_true rfl)
end LLOOP
