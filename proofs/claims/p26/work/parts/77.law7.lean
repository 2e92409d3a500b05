/-! ===== 77.law7: areAlike, by the law ===== -/

abbrev mL_areAlike : ZM := (cL_areAlike, RL, wsL_areAlike, 43, 0, 0, (some .boolean), 5, yL_areAlike.name)
set_option maxHeartbeats 1000000 in
set_option maxRecDepth 100000 in
theorem c_L_areAlike {sh : zSh} {F : Nat → Nat → Int32} {P : Nat → Nat → Option Nat} {χ η : Nat} {v : pV} {F1 F2 : pM} {z : Int32} {g M : Nat} (hL0 : pLI sh F P χ v) (hK0 : pLI sh F P η v) (hL : pLI sh F2 P χ v) (hK : pLI sh F2 P η v) (hg : cSum (pvS v 2) 20 = nI g) (hM : cSum (pvS v 3) 20 = nI M) (hb : g + M < 2147483648) (m1 : zMet yX6_canHave wsX6_canHave 42 0 0 [.ref χ, .int 0] sh F P (some (.int z)) sh F1 P) (m2 : zMet yX6_canHave wsX6_canHave 42 0 0 [.ref η, .int 0] sh F1 P (some (.int z)) sh F2 P) : zMet yL_areAlike wsL_areAlike (43) (0) (0) [.ref χ, .ref η] sh F P (some (.int 1)) sh F2 P := by
  refine zMet.of (by decide) rfl (Nat.le_of_ble_eq_true rfl) (by simp [Value.category]) ?_
  intro X ρ
  show AW mL_areAlike X (zMQ mL_areAlike X (some (.int 1)) sh F2 P) 0 [some (.ref χ), some (.ref η), none, none, none] [] ρ sh F P 0 0
  have hs := hL0.1.1.1
  have hk := hK0.1.1.1
  have hsh : FP.fcmp (eShare (nI g) (nI (g + M))) (eShare (nI g) (nI (g + M))) = some .eq := fCmp32 (eShare_nn hb)
  have L70 : ∀ (m i : Nat) (o4 : Option Value), i ≤ 20 → 20 - i = m → AW mL_areAlike X (zMQ mL_areAlike X (some (.int 1)) sh F2 P) 70 [some (.ref χ), some (.ref η), some (.int 1), some (.int (nI i)), o4] [] ρ sh F2 P 0 0 := by
    intro m
    induction m using Nat.strongRecOn with
    | _ m ih =>
    intro i o4 hi hm
    refine aw_iload_3 dL_areAlike_70 ?_
    refine aw_bipush (v := 20) dL_areAlike_71 (by decide) ?_
    refine aw_icmp_ge (tgt := 125) dL_areAlike_73 (by decide) (fun c73 => ?_) (fun c73 => ?_)
    · refine aw_iload_2 dL_areAlike_125 ?_
      exact aw_zreturn rfl dL_areAlike_126 ⟨Nat.zero_le _, Nat.zero_le _⟩ (by decide) rfl rfl rfl rfl
    · have hlt : i < 20 := zlt (n := 20) hi (by decide) c73
      refine aw_iconst (v := 0) dL_areAlike_76 (by decide) ?_
      have M79 : ∀ (m j : Nat), j ≤ 11 → 11 - j = m → AW mL_areAlike X (zMQ mL_areAlike X (some (.int 1)) sh F2 P) 79 [some (.ref χ), some (.ref η), some (.int 1), some (.int (nI i)), some (.int (nI j))] [] ρ sh F2 P 0 0 := by
        intro m
        induction m using Nat.strongRecOn with
        | _ m ih2 =>
        intro j hj hm2
        refine aw_iload_4 dL_areAlike_79 ?_
        refine aw_bipush (v := 11) dL_areAlike_81 (by decide) ?_
        refine aw_icmp_ge (tgt := 119) dL_areAlike_83 (by decide) (fun c83 => ?_) (fun c83 => ?_)
        · refine aw_iinc_3 (v := 1) (by decide) dL_areAlike_119 ?_
          refine aw_goto (tgt := 70) dL_areAlike_122 (by decide) ?_
          rw [nI_1]
          exact ih (20 - (i + 1)) (by omega) (i + 1) _ (by omega) rfl
        · have hlt2 : j < 11 := zlt (n := 11) hj (by decide) c83
          refine aw_iload_2 dL_areAlike_86 ?_
          refine aw_if_eq (tgt := 111) dL_areAlike_87 (by decide) (fun c87 => absurd c87 (by decide)) (fun c87 => ?_)
          refine aw_aload_0 dL_areAlike_90 ?_
          refine aw_iload_3 dL_areAlike_91 ?_
          refine aw_iload_4 dL_areAlike_92 ?_
          refine aw_run (zRun_V (a_thing hL hlt hlt2) gL_areAlike_X6_thing q_X6_thing rfl (by decide) rfl hs rfl rfl (Nat.le_of_ble_eq_true rfl) dL_areAlike_94 ⟨Nat.le_refl _, Nat.le_refl _⟩) ?_
          refine aw_aload_1 dL_areAlike_97 ?_
          refine aw_iload_3 dL_areAlike_98 ?_
          refine aw_iload_4 dL_areAlike_99 ?_
          refine aw_run (zRun_V (a_thing hK hlt hlt2) gL_areAlike_X6_thing q_X6_thing rfl (by decide) rfl hk rfl rfl (Nat.le_of_ble_eq_true rfl) dL_areAlike_101 ⟨Nat.le_refl _, Nat.le_refl _⟩) ?_
          refine aw_icmp_ne (tgt := 111) dL_areAlike_104 (by decide) (fun c104 => absurd c104 (fun e => e rfl)) (fun c104 => ?_)
          refine aw_iconst (v := 1) dL_areAlike_107 (by decide) ?_
          refine aw_goto (tgt := 112) dL_areAlike_108 (by decide) ?_
          refine aw_istore_2 dL_areAlike_112 ?_
          refine aw_iinc_4 (v := 1) (by decide) dL_areAlike_113 ?_
          refine aw_goto (tgt := 79) dL_areAlike_116 (by decide) ?_
          rw [nI_1]
          exact ih2 (11 - (j + 1)) (by omega) (j + 1) (by omega) rfl
      refine aw_istore_4 dL_areAlike_77 ?_
      exact M79 _ 0 (Nat.zero_le _) rfl
  have L33 : ∀ (m i : Nat), i ≤ 6 → 6 - i = m → AW mL_areAlike X (zMQ mL_areAlike X (some (.int 1)) sh F2 P) 33 [some (.ref χ), some (.ref η), some (.int 1), some (.int (nI i)), none] [] ρ sh F2 P 0 0 := by
    intro m
    induction m using Nat.strongRecOn with
    | _ m ih =>
    intro i hi hm
    refine aw_iload_3 dL_areAlike_33 ?_
    refine aw_bipush (v := 6) dL_areAlike_34 (by decide) ?_
    refine aw_icmp_ge (tgt := 68) dL_areAlike_36 (by decide) (fun c36 => ?_) (fun c36 => ?_)
    · refine aw_iconst (v := 0) dL_areAlike_68 (by decide) ?_
      refine aw_istore_3 dL_areAlike_69 ?_
      exact L70 _ 0 _ (Nat.zero_le _) rfl
    · have hlt : i < 6 := zlt (n := 6) hi (by decide) c36
      refine aw_iload_2 dL_areAlike_39 ?_
      refine aw_if_eq (tgt := 60) dL_areAlike_40 (by decide) (fun c40 => absurd c40 (by decide)) (fun c40 => ?_)
      refine aw_aload_0 dL_areAlike_43 ?_
      refine aw_iload_3 dL_areAlike_44 ?_
      refine aw_run (zRun_V (a_told hL hlt) gL_areAlike_X6_told q_X6_told rfl (by decide) rfl hs rfl rfl (Nat.le_of_ble_eq_true rfl) dL_areAlike_45 ⟨Nat.le_refl _, Nat.le_refl _⟩) ?_
      refine aw_aload_1 dL_areAlike_48 ?_
      refine aw_iload_3 dL_areAlike_49 ?_
      refine aw_run (zRun_V (a_told hK hlt) gL_areAlike_X6_told q_X6_told rfl (by decide) rfl hk rfl rfl (Nat.le_of_ble_eq_true rfl) dL_areAlike_50 ⟨Nat.le_refl _, Nat.le_refl _⟩) ?_
      refine aw_icmp_ne (tgt := 60) dL_areAlike_53 (by decide) (fun c53 => absurd c53 (fun e => e rfl)) (fun c53 => ?_)
      refine aw_iconst (v := 1) dL_areAlike_56 (by decide) ?_
      refine aw_goto (tgt := 61) dL_areAlike_57 (by decide) ?_
      refine aw_istore_2 dL_areAlike_61 ?_
      refine aw_iinc_3 (v := 1) (by decide) dL_areAlike_62 ?_
      refine aw_goto (tgt := 33) dL_areAlike_65 (by decide) ?_
      rw [nI_1]
      exact ih (6 - (i + 1)) (by omega) (i + 1) (by omega) rfl
  refine aw_aload_0 dL_areAlike_0 ?_
  refine aw_run (zRun_V (a_share hL0 hg hM hb) gL_areAlike_X6_share q_X6_share rfl (by decide) rfl hs rfl rfl (Nat.le_of_ble_eq_true rfl) dL_areAlike_1 ⟨Nat.le_refl _, Nat.le_refl _⟩) ?_
  refine aw_aload_1 dL_areAlike_4 ?_
  refine aw_run (zRun_V (a_share hK0 hg hM hb) gL_areAlike_X6_share q_X6_share rfl (by decide) rfl hk rfl rfl (Nat.le_of_ble_eq_true rfl) dL_areAlike_5 ⟨Nat.le_refl _, Nat.le_refl _⟩) ?_
  refine aw_fcmp dL_areAlike_8 ?_
  rw [hsh]
  refine aw_if_ne (tgt := 29) dL_areAlike_9 (by decide) (fun c9 => absurd c9 (fun e => e rfl)) (fun c9 => ?_)
  refine aw_aload_0 dL_areAlike_12 ?_
  refine aw_iconst (v := 0) dL_areAlike_13 (by decide) ?_
  refine aw_run (zRun_V m1 gL_areAlike_X6_canHave q_X6_canHave rfl (by decide) rfl hs rfl rfl (Nat.le_of_ble_eq_true rfl) dL_areAlike_14 ⟨Nat.le_refl _, Nat.le_refl _⟩) ?_
  refine aw_aload_1 dL_areAlike_17 ?_
  refine aw_iconst (v := 0) dL_areAlike_18 (by decide) ?_
  refine aw_run (zRun_V m2 gL_areAlike_X6_canHave q_X6_canHave rfl (by decide) rfl hk rfl rfl (Nat.le_of_ble_eq_true rfl) dL_areAlike_19 ⟨Nat.le_refl _, Nat.le_refl _⟩) ?_
  refine aw_icmp_ne (tgt := 29) dL_areAlike_22 (by decide) (fun c22 => absurd c22 (fun e => e rfl)) (fun c22 => ?_)
  refine aw_iconst (v := 1) dL_areAlike_25 (by decide) ?_
  refine aw_goto (tgt := 30) dL_areAlike_26 (by decide) ?_
  refine aw_istore_2 dL_areAlike_30 ?_
  refine aw_iconst (v := 0) dL_areAlike_31 (by decide) ?_
  refine aw_istore_3 dL_areAlike_32 ?_
  exact L33 _ 0 (Nat.zero_le _) rfl


theorem a_areAlike {v : pV} {N : Nat} {sh : zSh} {F : pM} {P : Nat → Nat → Option Nat} {χ η : Nat} (hL : pLI sh F P χ v) (hK : pLI sh F P η v) (hI : pInv v N) (hN : N < 2147483648) (ho : χ + 229 ≤ η) : ∃ F', zMet yL_areAlike wsL_areAlike 43 0 0 [.ref χ, .ref η] sh F P (some (.int 1)) sh F' P := by
  obtain ⟨-, ⟨-, -, g, M, hg, hM, hb⟩, -⟩ := hI
  obtain ⟨F1, q1, m1⟩ := a_canHave (v := v) (t := 0) hL (by decide)
  have hL1 := hL.q q1
  have hK1 : pLI sh F1 P η v := hK.fr fun j hj => ⟨rfl, q1 _ (by omega), rfl⟩
  obtain ⟨F2, q2, m2⟩ := a_canHave (v := v) (t := 0) hK1 (by decide)
  exact ⟨F2, c_L_areAlike hL hK (hL1.fr fun j hj => ⟨rfl, q2 _ (by omega), rfl⟩) (hK1.q q2) hg hM (by omega) m1 m2⟩

