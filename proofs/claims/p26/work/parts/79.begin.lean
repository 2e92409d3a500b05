/-! ===== 79.begin: the two objects, new ===== -/
def v0 : pV := (bkF, zZero, fun _ => 0, 0, zZero, bkF, fun _ => none)
def sh1 : zSh := va_up (fun _ => none) 1 (some (.inl 6))
def sh2 : zSh := va_up (iSh sh1 1) 300 (some (.inl 6))
def sh3 : zSh := iSh sh2 300
def F0z : Nat → Nat → Int32 := fun _ _ => 0
def F1z : Nat → Nat → Int32 := va_up F0z 1 (fun _ => 0)
def F2z : Nat → Nat → Int32 := va_up (iF F1z 1) 300 (fun _ => 0)
def F3z : Nat → Nat → Int32 := iF F2z 300
def P0z : Nat → Nat → Option Nat := fun _ _ => none
def P1z : Nat → Nat → Option Nat := va_up P0z 1 (fun _ => none)
def P2z : Nat → Nat → Option Nat := va_up (iP P1z 1) 300 (fun _ => none)
def P3z : Nat → Nat → Option Nat := iP P2z 300
theorem sh3_out {i : Nat} (h : i = 0 ∨ (42 ≤ i ∧ i < 300) ∨ 341 ≤ i) : sh3 i = none := by
  unfold sh3 iSh sh2 iSh sh1
  simp (disch := omega) only [zup_ne, zwin_ne]
theorem z_sys1 : zSys sh3 P3z 1 := by
  refine ⟨⟨rfl, rfl, rfl, rfl, rfl, rfl, rfl, rfl, rfl, rfl, rfl⟩, ⟨rfl, ⟨rfl, rfl, rfl, rfl, rfl, rfl, rfl, rfl⟩, rfl, rfl, rfl, rfl, rfl, rfl, rfl, rfl⟩, ⟨rfl, ⟨rfl, rfl, rfl, rfl, rfl, rfl, rfl, rfl⟩, rfl, rfl, rfl, rfl, rfl, rfl, rfl, rfl⟩, ⟨rfl, ⟨rfl, rfl, rfl, rfl, rfl, rfl⟩, rfl, rfl, rfl, rfl, rfl, rfl⟩, ⟨rfl, rfl, rfl, ⟨rfl, rfl, rfl, rfl, rfl, rfl⟩, rfl, rfl, rfl, rfl, rfl, rfl⟩, ⟨rfl, rfl, rfl⟩, ⟨rfl, ⟨rfl, rfl⟩, rfl, rfl⟩, fun p hp => Or.inr ⟨rfl, fun j hj => sh3_out (by omega)⟩, fun p hp => Or.inr ⟨rfl, fun j hj => sh3_out (by omega)⟩⟩
theorem z_sys2 : zSys sh3 P3z 300 := by
  refine ⟨⟨rfl, rfl, rfl, rfl, rfl, rfl, rfl, rfl, rfl, rfl, rfl⟩, ⟨rfl, ⟨rfl, rfl, rfl, rfl, rfl, rfl, rfl, rfl⟩, rfl, rfl, rfl, rfl, rfl, rfl, rfl, rfl⟩, ⟨rfl, ⟨rfl, rfl, rfl, rfl, rfl, rfl, rfl, rfl⟩, rfl, rfl, rfl, rfl, rfl, rfl, rfl, rfl⟩, ⟨rfl, ⟨rfl, rfl, rfl, rfl, rfl, rfl⟩, rfl, rfl, rfl, rfl, rfl, rfl⟩, ⟨rfl, rfl, rfl, ⟨rfl, rfl, rfl, rfl, rfl, rfl⟩, rfl, rfl, rfl, rfl, rfl, rfl⟩, ⟨rfl, rfl, rfl⟩, ⟨rfl, ⟨rfl, rfl⟩, rfl, rfl⟩, fun p hp => Or.inr ⟨rfl, fun j hj => sh3_out (by omega)⟩, fun p hp => Or.inr ⟨rfl, fun j hj => sh3_out (by omega)⟩⟩
theorem z9 {p : Nat → Prop} (h : p 0 ∧ p 1 ∧ p 2 ∧ p 3 ∧ p 4 ∧ p 5 ∧ p 6 ∧ p 7 ∧ p 8) : ∀ j, j < 9 → p j := by
  intro j hj
  obtain ⟨h0, h1, h2, h3, h4, h5, h6, h7, h8⟩ := h
  have : j = 0 ∨ j = 1 ∨ j = 2 ∨ j = 3 ∨ j = 4 ∨ j = 5 ∨ j = 6 ∨ j = 7 ∨ j = 8 := by omega
  rcases this with rfl | rfl | rfl | rfl | rfl | rfl | rfl | rfl | rfl <;> assumption
theorem zz9 {A B : pM} {n : Nat} (hn : n ≤ 9) (h : ∀ j, j < 9 → j < n → A j = B j) : zEq n A B := fun j hj => h j (by omega) hj
theorem z_vw1 : pVw F3z P3z 1 v0 := by
  refine ⟨fun j hj => ?_, fun j hj => ?_, rfl, rfl, fun j hj => ?_, fun j hj => ?_, fun p hp => rfl⟩
  · exact z9 (p := fun j => zsub F3z (1 + 1) j = bkF j) ⟨rfl, rfl, rfl, rfl, rfl, rfl, rfl, rfl, rfl⟩ j hj
  · have : j = 0 ∨ j = 1 ∨ j = 2 ∨ j = 3 ∨ j = 4 ∨ j = 5 ∨ j = 6 := by omega
    rcases this with rfl | rfl | rfl | rfl | rfl | rfl | rfl <;> rfl
  · have : j = 0 ∨ j = 1 ∨ j = 2 := by omega
    rcases this with rfl | rfl | rfl <;> rfl
  · exact z9 (p := fun j => zsub F3z (1 + 10) j = bkF j) ⟨rfl, rfl, rfl, rfl, rfl, rfl, rfl, rfl, rfl⟩ j hj
theorem z_vw2 : pVw F3z P3z 300 v0 := by
  refine ⟨fun j hj => ?_, fun j hj => ?_, rfl, rfl, fun j hj => ?_, fun j hj => ?_, fun p hp => rfl⟩
  · exact z9 (p := fun j => zsub F3z (300 + 1) j = bkF j) ⟨rfl, rfl, rfl, rfl, rfl, rfl, rfl, rfl, rfl⟩ j hj
  · have : j = 0 ∨ j = 1 ∨ j = 2 ∨ j = 3 ∨ j = 4 ∨ j = 5 ∨ j = 6 := by omega
    rcases this with rfl | rfl | rfl | rfl | rfl | rfl | rfl <;> rfl
  · have : j = 0 ∨ j = 1 ∨ j = 2 := by omega
    rcases this with rfl | rfl | rfl <;> rfl
  · exact z9 (p := fun j => zsub F3z (300 + 10) j = bkF j) ⟨rfl, rfl, rfl, rfl, rfl, rfl, rfl, rfl, rfl⟩ j hj
theorem z_begin : pLI sh3 F3z P3z 1 v0 ∧ pLI sh3 F3z P3z 300 v0 := ⟨⟨z_sys1, ⟨0, 0, by decide, by decide, rfl, rfl⟩, z_vw1⟩, ⟨z_sys2, ⟨0, 0, by decide, by decide, rfl, rfl⟩, z_vw2⟩⟩
theorem z_inv : pInv v0 0 := by
  refine ⟨?_, ⟨fun t ht => ⟨0, by decide, rfl⟩, fun t ht => ?_, 0, 0, rfl, rfl, Nat.le_refl _⟩, fun p hp X e => by cases e⟩
  · obtain ⟨w, hw⟩ := bInv.new (B := fun j _ => if j = 7 then -9 else 0) (fun j t _ _ => rfl)
    refine ⟨w, hw.beq fun j t a b c => ?_⟩
    show bkF j t = if j = 7 then -9 else 0
    unfold bkF
    by_cases e : j = 7
    · subst e
      rw [if_pos rfl, if_pos rfl]
      exact if_pos c
    · rw [if_neg e, if_neg e]
  · show (0 : Int32) - 0 - 0 + 0 - 0 = 0
    decide
theorem a_isWish {v : pV} {N χ t n e1 e2 : Nat} {sh : zSh} {F : pM} {P : Nat → Nat → Option Nat} (hL : pLI sh F P χ v) (hI : pInv v N) (ht : t < 20) (h1 : 1 ≤ n) (hn : n ≤ 998) (f1 : sh e1 = none) (f2 : sh e2 = none) (o1 : e1 < χ ∨ χ + 229 ≤ e1) (o2 : e2 < χ ∨ χ + 229 ≤ e2) (h12 : e1 ≠ e2) : zMetE yL_isWish wsL_isWish 43 36 1034 [.ref χ, .int (nI t), .int (nI n)] sh F P (pEnd χ e1 e2 v sh F P) := by
  by_cases hw : pW (pvB v) (pvS v) (nI t) (nI n) 0 2 = 0
  · exact c_L_isWish_o hL hI ht h1 hn hw f1 f2 o1 o2 h12
  · exact c_L_isWish_f hL hI ht h1 hn hw
section ZE2
variable {M : ZM} {X : ZX} {Q : State → Prop} {pc : Nat} {ls : List (Option Value)} {st : List Value} {ρ : Nat → Nat} {sh : zSh} {F : Nat → Nat → Int32} {P : Nat → Nat → Option Nat} {k n : Nat}
theorem aw_runE2 {rest : List Value} {mc ms : Nat} {Po : zPo} (hr : zRunE M X pc st rest ρ sh F P k n mc ms Po) (href : ∀ v sh' F' P', Po (some v) sh' F' P' → zrefs sh sh' ls rest) (hn : ∀ sh' F' P', ¬ Po none sh' F' P')
    (kk : ∀ v ρ' sh' F' P', Po (some v) sh' F' P' → AW M X Q (pc + 3) ls (v :: rest) ρ' sh' F' P' (k + mc) (n + ms)) : AW M X Q pc ls st ρ sh F P k n := by
  intro ok e el H locs lsA rr hS hl
  obtain ⟨a, hr⟩ := hr ok H locs lsA (hl.1.trans el) rr
  refine zcallE hr hS (fun i hi => rr.inA hi) (fun r sh' F' P' ρ' H1 locs1 hP he hR hS1 => ?_)
  cases r with
  | none => exact absurd hP (hn sh' F' P')
  | some v =>
    have hrf := href v sh' F' P' hP
    have h := kk v ρ' sh' F' P' hP ok (e.trans he) el H1 locs1 lsA hR hS1 (zL_ext hl (fun j hj => he.at (hrf.1 j hj)))
    have h2 : (v :: rest).map (zV ρ') = ((some v).map (zV ρ')).toList ++ rest.map (zV ρ) := by
      rw [List.map_cons, zst_ext (fun j hj => he.at (hrf.2 j hj))]
      rfl
    rw [h2] at h
    exact h
end ZE2
