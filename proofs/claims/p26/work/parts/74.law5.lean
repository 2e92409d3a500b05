/-! ===== 74.law5: canHave, by the law ===== -/

abbrev mL_canHave : ZM := (cL_canHave, RL, wsL_canHave, 43, 0, 0, (some .boolean), 4, yL_canHave.name)
set_option maxHeartbeats 1000000 in
set_option maxRecDepth 100000 in
theorem c_L_canHave_a {sh : zSh} {F : Nat → Nat → Int32} {P : Nat → Nat → Option Nat} {F1 F2 F3 : pM} {χ t a : Nat} {th z3 : Int32} (hs : sh χ = some (.inl 6)) (ha : a ≤ 999) (m1 : zMet yX6_canHave wsX6_canHave 42 0 0 [.ref χ, .int (nI t)] sh F P (some (.int (nI a))) sh F1 P) (h0 : nI a = 0) (h9 : ¬ nI a = 999) (m3 : zMet yX6_gather wsX6_gather 42 0 0 [.ref χ, .int (nI t), .int (nI a + 1), .int (-9)] sh F1 P (some (.int z3)) sh F3 P) (hz : ¬ z3 = 0) (mth : zMet yX6_thing wsX6_thing 3 0 0 [.ref χ, .int (nI t), .int 0] sh F1 P (some (.int th)) sh F1 P) (hth : ¬ nI a < cMin th 999) : zMet yL_canHave wsL_canHave (43) (0) (0) [.ref χ, .int (nI t)] sh F P (some (.int 1)) sh F3 P := by
  refine zMet.of (by decide) rfl (Nat.le_of_ble_eq_true rfl) (by simp [Value.category]) ?_
  intro X ρ
  show AW mL_canHave X (zMQ mL_canHave X (some (.int 1)) sh F3 P) 0 [some (.ref χ), some (.int (nI t)), none, none] [] ρ sh F P 0 0
  refine aw_aload_0 dL_canHave_0 ?_
  refine aw_iload_1 dL_canHave_1 ?_
  refine aw_run (zRun_V m1 gL_canHave_X6_canHave q_X6_canHave rfl (by decide) rfl hs rfl rfl (Nat.le_of_ble_eq_true rfl) dL_canHave_2 ⟨Nat.le_refl _, Nat.le_refl _⟩) ?_
  refine aw_istore_2 dL_canHave_5 ?_
  refine aw_iload_2 dL_canHave_6 ?_
  refine aw_if_lt (tgt := 64) dL_canHave_7 (by decide) (fun c7 => absurd c7 (nI_pos (by omega))) (fun c7 => ?_)
  refine aw_iload_2 dL_canHave_10 ?_
  refine aw_sipush (v := 999) dL_canHave_11 (by decide) ?_
  refine aw_icmp_gt (tgt := 64) dL_canHave_14 (by decide) (fun c14 => absurd c14 (nI_nlt (a := 999) ha (by decide))) (fun c14 => ?_)
  refine aw_iload_2 dL_canHave_17 ?_
  refine aw_if_eq (tgt := 32) dL_canHave_18 (by decide) (fun c18 => ?_) (fun c18 => absurd h0 c18)
  refine aw_iload_2 dL_canHave_32 ?_
  refine aw_aload_0 dL_canHave_33 ?_
  refine aw_iload_1 dL_canHave_34 ?_
  refine aw_iconst (v := 0) dL_canHave_35 (by decide) ?_
  have M57 : AW mL_canHave X (zMQ mL_canHave X (some (.int 1)) sh F3 P) 57 [some (.ref χ), some (.int (nI t)), some (.int (nI a)), none] [.int (cMin th 999), .int (nI a)] ρ sh F1 P 0 0 := by
    refine aw_icmp_lt (tgt := 64) dL_canHave_57 (by decide) (fun c57 => absurd c57 hth) (fun c57 => ?_)
    refine aw_iconst (v := 1) dL_canHave_60 (by decide) ?_
    refine aw_goto (tgt := 65) dL_canHave_61 (by decide) ?_
    refine aw_istore_3 dL_canHave_65 ?_
    refine aw_iload_3 dL_canHave_66 ?_
    refine aw_if_eq (tgt := 94) dL_canHave_67 (by decide) (fun c67 => absurd c67 (by decide)) (fun c67 => ?_)
    refine aw_iload_2 dL_canHave_70 ?_
    refine aw_sipush (v := 999) dL_canHave_71 (by decide) ?_
    refine aw_icmp_eq (tgt := 90) dL_canHave_74 (by decide) (fun c74 => absurd c74 h9) (fun c74 => ?_)
    refine aw_aload_0 dL_canHave_77 ?_
    refine aw_iload_1 dL_canHave_78 ?_
    refine aw_iload_2 dL_canHave_79 ?_
    refine aw_iconst (v := 1) dL_canHave_80 (by decide) ?_
    refine aw_iadd dL_canHave_81 ?_
    refine aw_bipush (v := (-9)) dL_canHave_82 (by decide) ?_
    refine aw_run (zRun_V m3 gL_canHave_X6_gather q_X6_gather rfl (by decide) rfl hs rfl rfl (Nat.le_of_ble_eq_true rfl) dL_canHave_84 ⟨Nat.le_refl _, Nat.le_refl _⟩) ?_
    refine aw_if_eq (tgt := 94) dL_canHave_87 (by decide) (fun c87 => absurd c87 hz) (fun c87 => ?_)
    refine aw_iconst (v := 1) dL_canHave_90 (by decide) ?_
    refine aw_goto (tgt := 95) dL_canHave_91 (by decide) ?_
    exact aw_zreturn rfl dL_canHave_95 ⟨Nat.zero_le _, Nat.zero_le _⟩ (by decide) rfl rfl rfl rfl
  refine aw_run (zRun_V mth gL_canHave_X6_thing q_X6_thing rfl (by decide) rfl hs rfl rfl (Nat.le_of_ble_eq_true rfl) dL_canHave_36 ⟨Nat.le_refl _, Nat.le_refl _⟩) ?_
  refine aw_sipush (v := 999) dL_canHave_39 (by decide) ?_
  refine aw_icmp_le (tgt := 51) dL_canHave_42 (by decide) (fun c42 => ?_) (fun c42 => ?_)
  · refine aw_aload_0 dL_canHave_51 ?_
    refine aw_iload_1 dL_canHave_52 ?_
    refine aw_iconst (v := 0) dL_canHave_53 (by decide) ?_
    refine aw_run (zRun_V mth gL_canHave_X6_thing q_X6_thing rfl (by decide) rfl hs rfl rfl (Nat.le_of_ble_eq_true rfl) dL_canHave_54 ⟨Nat.le_refl _, Nat.le_refl _⟩) ?_
    refine aw_top (x' := cMin th 999) (by unfold cMin; first | rw [if_neg (Int32.not_lt.mpr c42)] | rw [if_pos (Int32.not_le.mp c42)]) ?_
    exact M57
  · refine aw_sipush (v := 999) dL_canHave_45 (by decide) ?_
    refine aw_goto (tgt := 57) dL_canHave_48 (by decide) ?_
    refine aw_top (x' := cMin th 999) (by unfold cMin; first | rw [if_neg (Int32.not_lt.mpr c42)] | rw [if_pos (Int32.not_le.mp c42)]) ?_
    exact M57

set_option maxHeartbeats 1000000 in
set_option maxRecDepth 100000 in
theorem c_L_canHave_b {sh : zSh} {F : Nat → Nat → Int32} {P : Nat → Nat → Option Nat} {F1 F2 F3 : pM} {χ t a : Nat} {th z3 : Int32} (hs : sh χ = some (.inl 6)) (ha : a ≤ 999) (m1 : zMet yX6_canHave wsX6_canHave 42 0 0 [.ref χ, .int (nI t)] sh F P (some (.int (nI a))) sh F1 P) (h0 : ¬ nI a = 0) (h9 : ¬ nI a = 999) (m2 : zMet yX6_gather wsX6_gather 42 0 0 [.ref χ, .int (nI t), .int (nI a), .int (-9)] sh F1 P (some (.int 0)) sh F2 P) (m3 : zMet yX6_gather wsX6_gather 42 0 0 [.ref χ, .int (nI t), .int (nI a + 1), .int (-9)] sh F2 P (some (.int z3)) sh F3 P) (hz : ¬ z3 = 0) (mth : zMet yX6_thing wsX6_thing 3 0 0 [.ref χ, .int (nI t), .int 0] sh F2 P (some (.int th)) sh F2 P) (hth : ¬ nI a < cMin th 999) : zMet yL_canHave wsL_canHave (43) (0) (0) [.ref χ, .int (nI t)] sh F P (some (.int 1)) sh F3 P := by
  refine zMet.of (by decide) rfl (Nat.le_of_ble_eq_true rfl) (by simp [Value.category]) ?_
  intro X ρ
  show AW mL_canHave X (zMQ mL_canHave X (some (.int 1)) sh F3 P) 0 [some (.ref χ), some (.int (nI t)), none, none] [] ρ sh F P 0 0
  refine aw_aload_0 dL_canHave_0 ?_
  refine aw_iload_1 dL_canHave_1 ?_
  refine aw_run (zRun_V m1 gL_canHave_X6_canHave q_X6_canHave rfl (by decide) rfl hs rfl rfl (Nat.le_of_ble_eq_true rfl) dL_canHave_2 ⟨Nat.le_refl _, Nat.le_refl _⟩) ?_
  refine aw_istore_2 dL_canHave_5 ?_
  refine aw_iload_2 dL_canHave_6 ?_
  refine aw_if_lt (tgt := 64) dL_canHave_7 (by decide) (fun c7 => absurd c7 (nI_pos (by omega))) (fun c7 => ?_)
  refine aw_iload_2 dL_canHave_10 ?_
  refine aw_sipush (v := 999) dL_canHave_11 (by decide) ?_
  refine aw_icmp_gt (tgt := 64) dL_canHave_14 (by decide) (fun c14 => absurd c14 (nI_nlt (a := 999) ha (by decide))) (fun c14 => ?_)
  refine aw_iload_2 dL_canHave_17 ?_
  refine aw_if_eq (tgt := 32) dL_canHave_18 (by decide) (fun c18 => absurd c18 h0) (fun c18 => ?_)
  refine aw_aload_0 dL_canHave_21 ?_
  refine aw_iload_1 dL_canHave_22 ?_
  refine aw_iload_2 dL_canHave_23 ?_
  refine aw_bipush (v := (-9)) dL_canHave_24 (by decide) ?_
  refine aw_run (zRun_V m2 gL_canHave_X6_gather q_X6_gather rfl (by decide) rfl hs rfl rfl (Nat.le_of_ble_eq_true rfl) dL_canHave_26 ⟨Nat.le_refl _, Nat.le_refl _⟩) ?_
  refine aw_if_ne (tgt := 64) dL_canHave_29 (by decide) (fun c29 => absurd c29 (fun e => e rfl)) (fun c29 => ?_)
  refine aw_iload_2 dL_canHave_32 ?_
  refine aw_aload_0 dL_canHave_33 ?_
  refine aw_iload_1 dL_canHave_34 ?_
  refine aw_iconst (v := 0) dL_canHave_35 (by decide) ?_
  have M57 : AW mL_canHave X (zMQ mL_canHave X (some (.int 1)) sh F3 P) 57 [some (.ref χ), some (.int (nI t)), some (.int (nI a)), none] [.int (cMin th 999), .int (nI a)] ρ sh F2 P 0 0 := by
    refine aw_icmp_lt (tgt := 64) dL_canHave_57 (by decide) (fun c57 => absurd c57 hth) (fun c57 => ?_)
    refine aw_iconst (v := 1) dL_canHave_60 (by decide) ?_
    refine aw_goto (tgt := 65) dL_canHave_61 (by decide) ?_
    refine aw_istore_3 dL_canHave_65 ?_
    refine aw_iload_3 dL_canHave_66 ?_
    refine aw_if_eq (tgt := 94) dL_canHave_67 (by decide) (fun c67 => absurd c67 (by decide)) (fun c67 => ?_)
    refine aw_iload_2 dL_canHave_70 ?_
    refine aw_sipush (v := 999) dL_canHave_71 (by decide) ?_
    refine aw_icmp_eq (tgt := 90) dL_canHave_74 (by decide) (fun c74 => absurd c74 h9) (fun c74 => ?_)
    refine aw_aload_0 dL_canHave_77 ?_
    refine aw_iload_1 dL_canHave_78 ?_
    refine aw_iload_2 dL_canHave_79 ?_
    refine aw_iconst (v := 1) dL_canHave_80 (by decide) ?_
    refine aw_iadd dL_canHave_81 ?_
    refine aw_bipush (v := (-9)) dL_canHave_82 (by decide) ?_
    refine aw_run (zRun_V m3 gL_canHave_X6_gather q_X6_gather rfl (by decide) rfl hs rfl rfl (Nat.le_of_ble_eq_true rfl) dL_canHave_84 ⟨Nat.le_refl _, Nat.le_refl _⟩) ?_
    refine aw_if_eq (tgt := 94) dL_canHave_87 (by decide) (fun c87 => absurd c87 hz) (fun c87 => ?_)
    refine aw_iconst (v := 1) dL_canHave_90 (by decide) ?_
    refine aw_goto (tgt := 95) dL_canHave_91 (by decide) ?_
    exact aw_zreturn rfl dL_canHave_95 ⟨Nat.zero_le _, Nat.zero_le _⟩ (by decide) rfl rfl rfl rfl
  refine aw_run (zRun_V mth gL_canHave_X6_thing q_X6_thing rfl (by decide) rfl hs rfl rfl (Nat.le_of_ble_eq_true rfl) dL_canHave_36 ⟨Nat.le_refl _, Nat.le_refl _⟩) ?_
  refine aw_sipush (v := 999) dL_canHave_39 (by decide) ?_
  refine aw_icmp_le (tgt := 51) dL_canHave_42 (by decide) (fun c42 => ?_) (fun c42 => ?_)
  · refine aw_aload_0 dL_canHave_51 ?_
    refine aw_iload_1 dL_canHave_52 ?_
    refine aw_iconst (v := 0) dL_canHave_53 (by decide) ?_
    refine aw_run (zRun_V mth gL_canHave_X6_thing q_X6_thing rfl (by decide) rfl hs rfl rfl (Nat.le_of_ble_eq_true rfl) dL_canHave_54 ⟨Nat.le_refl _, Nat.le_refl _⟩) ?_
    refine aw_top (x' := cMin th 999) (by unfold cMin; first | rw [if_neg (Int32.not_lt.mpr c42)] | rw [if_pos (Int32.not_le.mp c42)]) ?_
    exact M57
  · refine aw_sipush (v := 999) dL_canHave_45 (by decide) ?_
    refine aw_goto (tgt := 57) dL_canHave_48 (by decide) ?_
    refine aw_top (x' := cMin th 999) (by unfold cMin; first | rw [if_neg (Int32.not_lt.mpr c42)] | rw [if_pos (Int32.not_le.mp c42)]) ?_
    exact M57

set_option maxHeartbeats 1000000 in
set_option maxRecDepth 100000 in
theorem c_L_canHave_c {sh : zSh} {F : Nat → Nat → Int32} {P : Nat → Nat → Option Nat} {F1 F2 F3 : pM} {χ t a : Nat} {th z3 : Int32} (hs : sh χ = some (.inl 6)) (ha : a ≤ 999) (m1 : zMet yX6_canHave wsX6_canHave 42 0 0 [.ref χ, .int (nI t)] sh F P (some (.int (nI a))) sh F1 P) (h0 : ¬ nI a = 0) (h9 : nI a = 999) (m2 : zMet yX6_gather wsX6_gather 42 0 0 [.ref χ, .int (nI t), .int (nI a), .int (-9)] sh F1 P (some (.int 0)) sh F2 P) (mth : zMet yX6_thing wsX6_thing 3 0 0 [.ref χ, .int (nI t), .int 0] sh F2 P (some (.int th)) sh F2 P) (hth : ¬ nI a < cMin th 999) : zMet yL_canHave wsL_canHave (43) (0) (0) [.ref χ, .int (nI t)] sh F P (some (.int 1)) sh F2 P := by
  refine zMet.of (by decide) rfl (Nat.le_of_ble_eq_true rfl) (by simp [Value.category]) ?_
  intro X ρ
  show AW mL_canHave X (zMQ mL_canHave X (some (.int 1)) sh F2 P) 0 [some (.ref χ), some (.int (nI t)), none, none] [] ρ sh F P 0 0
  refine aw_aload_0 dL_canHave_0 ?_
  refine aw_iload_1 dL_canHave_1 ?_
  refine aw_run (zRun_V m1 gL_canHave_X6_canHave q_X6_canHave rfl (by decide) rfl hs rfl rfl (Nat.le_of_ble_eq_true rfl) dL_canHave_2 ⟨Nat.le_refl _, Nat.le_refl _⟩) ?_
  refine aw_istore_2 dL_canHave_5 ?_
  refine aw_iload_2 dL_canHave_6 ?_
  refine aw_if_lt (tgt := 64) dL_canHave_7 (by decide) (fun c7 => absurd c7 (nI_pos (by omega))) (fun c7 => ?_)
  refine aw_iload_2 dL_canHave_10 ?_
  refine aw_sipush (v := 999) dL_canHave_11 (by decide) ?_
  refine aw_icmp_gt (tgt := 64) dL_canHave_14 (by decide) (fun c14 => absurd c14 (nI_nlt (a := 999) ha (by decide))) (fun c14 => ?_)
  refine aw_iload_2 dL_canHave_17 ?_
  refine aw_if_eq (tgt := 32) dL_canHave_18 (by decide) (fun c18 => absurd c18 h0) (fun c18 => ?_)
  refine aw_aload_0 dL_canHave_21 ?_
  refine aw_iload_1 dL_canHave_22 ?_
  refine aw_iload_2 dL_canHave_23 ?_
  refine aw_bipush (v := (-9)) dL_canHave_24 (by decide) ?_
  refine aw_run (zRun_V m2 gL_canHave_X6_gather q_X6_gather rfl (by decide) rfl hs rfl rfl (Nat.le_of_ble_eq_true rfl) dL_canHave_26 ⟨Nat.le_refl _, Nat.le_refl _⟩) ?_
  refine aw_if_ne (tgt := 64) dL_canHave_29 (by decide) (fun c29 => absurd c29 (fun e => e rfl)) (fun c29 => ?_)
  refine aw_iload_2 dL_canHave_32 ?_
  refine aw_aload_0 dL_canHave_33 ?_
  refine aw_iload_1 dL_canHave_34 ?_
  refine aw_iconst (v := 0) dL_canHave_35 (by decide) ?_
  have M57 : AW mL_canHave X (zMQ mL_canHave X (some (.int 1)) sh F2 P) 57 [some (.ref χ), some (.int (nI t)), some (.int (nI a)), none] [.int (cMin th 999), .int (nI a)] ρ sh F2 P 0 0 := by
    refine aw_icmp_lt (tgt := 64) dL_canHave_57 (by decide) (fun c57 => absurd c57 hth) (fun c57 => ?_)
    refine aw_iconst (v := 1) dL_canHave_60 (by decide) ?_
    refine aw_goto (tgt := 65) dL_canHave_61 (by decide) ?_
    refine aw_istore_3 dL_canHave_65 ?_
    refine aw_iload_3 dL_canHave_66 ?_
    refine aw_if_eq (tgt := 94) dL_canHave_67 (by decide) (fun c67 => absurd c67 (by decide)) (fun c67 => ?_)
    refine aw_iload_2 dL_canHave_70 ?_
    refine aw_sipush (v := 999) dL_canHave_71 (by decide) ?_
    refine aw_icmp_eq (tgt := 90) dL_canHave_74 (by decide) (fun c74 => ?_) (fun c74 => absurd h9 c74)
    refine aw_iconst (v := 1) dL_canHave_90 (by decide) ?_
    refine aw_goto (tgt := 95) dL_canHave_91 (by decide) ?_
    exact aw_zreturn rfl dL_canHave_95 ⟨Nat.zero_le _, Nat.zero_le _⟩ (by decide) rfl rfl rfl rfl
  refine aw_run (zRun_V mth gL_canHave_X6_thing q_X6_thing rfl (by decide) rfl hs rfl rfl (Nat.le_of_ble_eq_true rfl) dL_canHave_36 ⟨Nat.le_refl _, Nat.le_refl _⟩) ?_
  refine aw_sipush (v := 999) dL_canHave_39 (by decide) ?_
  refine aw_icmp_le (tgt := 51) dL_canHave_42 (by decide) (fun c42 => ?_) (fun c42 => ?_)
  · refine aw_aload_0 dL_canHave_51 ?_
    refine aw_iload_1 dL_canHave_52 ?_
    refine aw_iconst (v := 0) dL_canHave_53 (by decide) ?_
    refine aw_run (zRun_V mth gL_canHave_X6_thing q_X6_thing rfl (by decide) rfl hs rfl rfl (Nat.le_of_ble_eq_true rfl) dL_canHave_54 ⟨Nat.le_refl _, Nat.le_refl _⟩) ?_
    refine aw_top (x' := cMin th 999) (by unfold cMin; first | rw [if_neg (Int32.not_lt.mpr c42)] | rw [if_pos (Int32.not_le.mp c42)]) ?_
    exact M57
  · refine aw_sipush (v := 999) dL_canHave_45 (by decide) ?_
    refine aw_goto (tgt := 57) dL_canHave_48 (by decide) ?_
    refine aw_top (x' := cMin th 999) (by unfold cMin; first | rw [if_neg (Int32.not_lt.mpr c42)] | rw [if_pos (Int32.not_le.mp c42)]) ?_
    exact M57


theorem pGt_9 {B S : pM} {t n : Int32} : pGt B S t n (-9) = pGat B S t n := by
  unfold pGt pGat
  by_cases h : pW B S t n 0 2 = 0
  · rw [if_pos h, if_pos h, if_pos rfl]
  · rw [if_neg h, if_neg h]
theorem a_lcanHave {v : pV} {N : Nat} {sh : zSh} {F : pM} {P : Nat → Nat → Option Nat} {χ t : Nat} (hL : pLI sh F P χ v) (hI : pInv v N) (ht : t < 20) : ∃ F', pQ χ F F' ∧ zMet yL_canHave wsL_canHave 43 0 0 [.ref χ, .int (nI t)] sh F P (some (.int 1)) sh F' P := by
  obtain ⟨⟨w, hB⟩, hS, -⟩ := hI
  obtain ⟨a, e, ha, h0, ⟨a0, ea, ha0, h1⟩, h9⟩ := pHave hB.1 hB.2.2.1 hS ht
  obtain ⟨F1, q1, m1⟩ := a_canHave (v := v) hL ht
  rw [e] at m1
  have hL1 := hL.q q1
  have hs := hL.1.1.1
  have hth : ¬ nI a < cMin (pTh v t 0) 999 := by
    show ¬ nI a < cMin (pvS v 1 t) 999
    rw [ea, show (999 : Int32) = nI 999 from rfl, cMin_n (by omega) (by decide)]
    exact nI_nlt (by omega) (by omega)
  have key : ∀ F2, pQ χ F1 F2 → (¬ nI a = 999) → ∃ F3 z3, pQ χ F2 F3 ∧ zMet yX6_gather wsX6_gather 42 0 0 [.ref χ, .int (nI t), .int (nI a + 1), .int (-9)] sh F2 P (some (.int z3)) sh F3 P ∧ ¬ z3 = 0 := by
    intro F2 q2 hn
    have ha9 : a ≠ 999 := fun h => hn (by rw [h]; rfl)
    obtain ⟨F3, q3, m3⟩ := a_gather (n := a + 1) (hL1.q q2) ht (by omega) (by omega) (Or.inl rfl)
    rw [← nI_1] at m3
    refine ⟨F3, _, q3, m3, ?_⟩
    rw [nI_1, pGt_9]
    exact h9.resolve_left ha9
  have hn9 : nI a = 999 ↔ a = 999 := nI_eq (b := 999) (by omega) (by decide)
  by_cases c0 : nI a = 0
  · have hn : ¬ nI a = 999 := fun h => by
      rw [h] at c0
      exact absurd c0 (by decide)
    obtain ⟨F3, z3, q3, m3, hz⟩ := key F1 pQ.refl hn
    exact ⟨F3, q1.trans q3, c_L_canHave_a (F2 := F1) hs ha m1 c0 hn m3 hz (a_thing (w := 0) hL1 ht (by decide)) hth⟩
  · have ha0 : a ≠ 0 := fun h => c0 (by rw [h]; rfl)
    obtain ⟨F2, q2, m2⟩ := a_gather (n := a) hL1 ht (by omega) ha (Or.inl rfl)
    rw [pGt_9, h0.resolve_left ha0] at m2
    by_cases hn : nI a = 999
    · exact ⟨F2, q1.trans q2, c_L_canHave_c (F3 := F2) (z3 := 0) hs ha m1 c0 hn m2 (a_thing (w := 0) (hL1.q q2) ht (by decide)) hth⟩
    · obtain ⟨F3, z3, q3, m3, hz⟩ := key F2 q2 hn
      exact ⟨F3, (q1.trans q2).trans q3, c_L_canHave_b hs ha m1 c0 hn m2 m3 hz (a_thing (w := 0) (hL1.q q2) ht (by decide)) hth⟩

