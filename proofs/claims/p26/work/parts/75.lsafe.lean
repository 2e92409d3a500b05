/-! ===== 75.lsafe: what lies beside an object; what a wish leaves ===== -/
theorem zSys.fr {sh sh' : zSh} {P P' : Nat → Nat → Option Nat} {χ : Nat} (h : zSys sh P χ) (e : ∀ j, j < 229 → sh' (χ + j) = sh (χ + j) ∧ P' (χ + j) = P (χ + j)) : zSys sh' P' χ := by
  refine h.to (fun j hj => (e j (by omega)).1) (fun j hj _ _ => (e j (by omega)).2) (fun p hp => ?_) (fun p hp => ?_)
  · have a : ∀ j, j < 17 → sh' (χ + 59 + 17 * p + j) = sh (χ + 59 + 17 * p + j) ∧ P' (χ + 59 + 17 * p + j) = P (χ + 59 + 17 * p + j) := fun j hj => by
      rw [show χ + 59 + 17 * p + j = χ + (59 + 17 * p + j) by omega]
      exact e _ (by omega)
    exact (h.2.2.2.2.2.2.2.1 p hp).keep (by rw [(e 35 (by decide)).2]) (fun j hj => (a j hj).1) (a 0 (by decide)).2 (a 1 (by decide)).2 (a 10 (by decide)).2
  · have a : ∀ j, j < 17 → sh' (χ + 195 + 17 * p + j) = sh (χ + 195 + 17 * p + j) ∧ P' (χ + 195 + 17 * p + j) = P (χ + 195 + 17 * p + j) := fun j hj => by
      rw [show χ + 195 + 17 * p + j = χ + (195 + 17 * p + j) by omega]
      exact e _ (by omega)
    exact (h.2.2.2.2.2.2.2.2 p hp).keep (by rw [(e 36 (by decide)).2]) (fun j hj => (a j hj).1) (a 0 (by decide)).2 (a 1 (by decide)).2 (a 10 (by decide)).2
section LSAFE
variable {sh sh' : zSh} {F F' : pM} {P P' : Nat → Nat → Option Nat} {χ e e1 e2 : Nat} {v : pV}
theorem pVw.fr (h : pVw F P χ v) (e : ∀ j, j < 229 → F' (χ + j) = F (χ + j) ∧ P' (χ + j) = P (χ + j)) : pVw F' P' χ v := by
  obtain ⟨h1, h2, h3, h4, h5, h6, h7⟩ := h
  have f : ∀ a j, a + j < 229 → F' (χ + a + j) = F (χ + a + j) := fun a j h => by
    rw [Nat.add_assoc]
    exact (e _ h).1
  refine ⟨fun j hj => (f 1 j (by omega)).trans (h1 j hj), fun j hj => (f 19 j (by omega)).trans (h2 j hj), (f 40 0 (by decide)).trans h3, (congrFun (f 0 0 (by decide)) 8).trans h4, fun j hj => (f 37 j (by omega)).trans (h5 j hj), fun j hj => (f 10 j (by omega)).trans (h6 j hj), fun p hp => (h7 p hp).keep hp (fun j _ b => (e j b).1) (by rw [(e 36 (by decide)).2])⟩
theorem pLI.fr (h : pLI sh F P χ v) (e : ∀ j, j < 229 → sh' (χ + j) = sh (χ + j) ∧ F' (χ + j) = F (χ + j) ∧ P' (χ + j) = P (χ + j)) : pLI sh' F' P' χ v :=
  ⟨h.1.fr fun j hj => ⟨(e j hj).1, (e j hj).2.2⟩, h.2.1.of (e 34 (by decide)).2.1, h.2.2.fr fun j hj => (e j hj).2⟩
theorem pLI.new (h : pLI sh F P χ v) (o : e < χ ∨ χ + 229 ≤ e) (k : Option (Nat ⊕ (Nat × Nat))) (f : Nat → Int32) (p : Nat → Option Nat) : pLI (va_up sh e k) (va_up F e f) (va_up P e p) χ v :=
  h.fr fun j hj => ⟨zup_ne (by omega), zup_ne (by omega), zup_ne (by omega)⟩
theorem zu_ne {i k j : Nat} {x : Int32} (h : j ≠ i) : zu F i k x j = F j := by rw [zu_up, zup_ne h]
theorem pLI.st (h : pLI sh F P χ v) (o : e < χ ∨ χ + 229 ≤ e) (k : Nat) (x : Int32) : pLI sh (zu F e k x) P χ v :=
  h.fr fun j hj => ⟨rfl, zu_ne (by omega), rfl⟩
/-- all that lies beside the object and the two arrays is as it was -/
def pOb (χ e1 e2 : Nat) (sh : zSh) (F : pM) (P : Nat → Nat → Option Nat) (sh' : zSh) (F' : pM) (P' : Nat → Nat → Option Nat) : Prop := ∀ i, (i < χ ∨ χ + 229 ≤ i) → i ≠ e1 → i ≠ e2 → sh' i = sh i ∧ F' i = F i ∧ P' i = P i
theorem pOb.refl : pOb χ e1 e2 sh F P sh F P := fun _ _ _ _ => ⟨rfl, rfl, rfl⟩
theorem pOb.fr {sh2 : zSh} {F2 : pM} {P2 : Nat → Nat → Option Nat} (h : pOb χ e1 e2 sh F P sh' F' P') (g : pFr χ sh' F' P' sh2 F2 P2) : pOb χ e1 e2 sh F P sh2 F2 P2 := fun i a b c => ⟨(g i a).1.trans (h i a b c).1, (g i a).2.1.trans (h i a b c).2.1, (g i a).2.2.trans (h i a b c).2.2⟩
theorem pOb.q {F2 : pM} (h : pOb χ e1 e2 sh F P sh' F' P') (g : pQ χ F' F2) : pOb χ e1 e2 sh F P sh' F2 P' := h.fr (pFr.q g)
theorem pOb.n1 {k : Option (Nat ⊕ (Nat × Nat))} {f : Nat → Int32} {p : Nat → Option Nat} (h : pOb χ e1 e2 sh F P sh' F' P') : pOb χ e1 e2 sh F P (va_up sh' e1 k) (va_up F' e1 f) (va_up P' e1 p) := fun i a b c => by
  rw [zup_ne b, zup_ne b, zup_ne b]
  exact h i a b c
theorem pOb.n2 {k : Option (Nat ⊕ (Nat × Nat))} {f : Nat → Int32} {p : Nat → Option Nat} (h : pOb χ e1 e2 sh F P sh' F' P') : pOb χ e1 e2 sh F P (va_up sh' e2 k) (va_up F' e2 f) (va_up P' e2 p) := fun i a b c => by
  rw [zup_ne c, zup_ne c, zup_ne c]
  exact h i a b c
theorem pOb.s1 {k : Nat} {x : Int32} (h : pOb χ e1 e2 sh F P sh' F' P') : pOb χ e1 e2 sh F P sh' (zu F' e1 k x) P' := fun i a b c => by
  rw [zu_ne b]
  exact h i a b c
theorem pOb.s2 {k : Nat} {x : Int32} (h : pOb χ e1 e2 sh F P sh' F' P') : pOb χ e1 e2 sh F P sh' (zu F' e2 k x) P' := fun i a b c => by
  rw [zu_ne c]
  exact h i a b c
def pEnd (χ e1 e2 : Nat) (v : pV) (sh : zSh) (F : pM) (P : Nat → Nat → Option Nat) : zPo := fun r sh' F' P' => r = some (.int 1) ∧ pLI sh' F' P' χ v ∧ pOb χ e1 e2 sh F P sh' F' P'
theorem nI_cl {i : Nat} (hi : i < 2 ^ 31) : (nI i).toNatClampNeg = i := by
  have := nI_toInt hi
  rw [Int32.toNatClampNeg]
  omega
/-- an array that is filled in order -/
theorem pArr {f : Nat → Int32} {i : Nat} (hi : i < 2 ^ 31) (h : ∀ k, k < i → F e k = f k) (q : F' e = F e) : ∀ k, k < i + 1 → zu F' e (nI i).toNatClampNeg (f i) e k = f k := by
  intro k hk
  rw [zu_up, zup_eq, nI_cl hi, q]
  by_cases c : k = i
  · subst c
    exact upd_eq
  · rw [upd_ne c]
    exact h k (by omega)
theorem pArr0 {f : Nat → Int32} {x : Nat → Int32} : ∀ k, k < 0 → va_up F e x e k = f k := fun k h => absurd h (Nat.not_lt_zero _)
theorem pArI {i : Nat} (h : i < 20) : vp_in (nI i) 20 := zin (by decide) (nI_pos (by omega)) (nI_ge h (by decide))
end LSAFE
section LWISH
variable {B S : pM} {w : Nat → Int32} {N t n : Nat}
def pEa (B S : pM) (t n : Int32) (k : Nat) : Int32 := pW B S t n 3 k - S 2 k
def pS1 (B S : pM) (t n : Int32) : pM := sCopy S (zsub (pW B S t n) 1)
theorem pGt_k {k : Nat} (hk : k < 20) (hw : pW B S (nI t) (nI n) 0 2 = 0) : pGt B S (nI t) (nI n) (nI k) = pEa B S (nI t) (nI n) k := by
  unfold pGt
  rw [if_pos hw, if_neg (fun e => absurd (show nI k < 0 by rw [e]; decide) (nI_pos (by omega))), eAt hk (by decide), eAt hk (by decide)]
  rfl
theorem cSum_sub {f g : Nat → Int32} : ∀ n, cSum (fun k => f k - g k) n = cSum f n - cSum g n := by
  intro n
  induction n with
  | zero =>
    show (0 : Int32) = 0 - 0
    decide
  | succ n ih =>
    show cSum (fun k => f k - g k) n + (f n - g n) = cSum f n + f n - (cSum g n + g n)
    rw [ih]
    generalize cSum f n = a, cSum g n = b, f n = c, g n = d
    grind
theorem pS1_1 (ht : t < 20) {u m : Int32} : pS1 B S u m 1 t = pW B S u m 2 t := sCopy_r (by decide) (by decide) ht
theorem pS1_2 (ht : t < 20) {u m : Int32} : pS1 B S u m 2 t = pW B S u m 3 t := sCopy_r (by decide) (by decide) ht
theorem pW_ok (hB : bInv B w) (hS : sOk S N) (ht : t < 20) (hn : n ≤ 1000) (hw : pW B S (nI t) (nI n) 0 2 = 0) : ∃ g a0 a, g ≤ 60000 ∧ pW B S (nI t) (nI n) 0 4 = nI g ∧ S 1 t = nI a0 ∧ a0 ≤ 99999 ∧ pS1 B S (nI t) (nI n) 1 t = nI a ∧ n ≤ a ∧ a ≤ 99999 ∧ (n ≤ a0 → nI a = nI a0) ∧ cSum (pEa B S (nI t) (nI n)) 20 = nI g ∧ cSum (pS1 B S (nI t) (nI n) 2) 20 = cSum (S 2) 20 + nI g := by
  obtain ⟨bt, g, M, M0, a0, a, ea0, ha0, eM0, hV, hg, hM, ea, hna, ha, hsame⟩ := (pFul (W := zZero) hB.1 hB.2.2.1 hS ht hn).resolve_left (fun h => h hw)
  have eV : wFul B (wBegin zZero S 1) (nI t) (nI n) = pW B S (nI t) (nI n) := rfl
  rw [eV] at hV ea hsame
  have e3 : cSum (pW B S (nI t) (nI n) 3) 20 = cSum (S 2) 20 + nI g := hV.2.2.2.2.2.2.2
  refine ⟨g, a0, a, hg, hV.2.2.2.2.2.1, ea0, ha0, by rw [pS1_1 ht]; exact ea, hna, ha, fun h => ?_, ?_, ?_⟩
  · rw [← ea, ← ea0, (hsame h).1]
    exact wBeg_r (j := 1) (by decide) (by decide) ht
  · show cSum (fun k => pW B S (nI t) (nI n) 3 k - S 2 k) 20 = nI g
    rw [cSum_sub, e3]
    generalize cSum (S 2) 20 = x, nI g = y
    grind
  · rw [← e3]
    exact eSum_congr 20 fun j hj => pS1_2 hj
theorem p_bring1 {v : pV} {i b : Nat} (hi : i < 20) (hb : b ≤ 99999) (e : pvS v 1 i + 1 = nI b) : pCallT yX6_bring wsX6_bring 6 [.int (nI i), .int 1] v (nI b) (pBr (pvS v) (nI i) 1) := by
  have eA : cAt 20 (pvS v 1) (nI i) = pvS v 1 i := eAt hi (by decide)
  have e0 : cMx0 (nI b) = nI b := if_neg (nI_pos (by omega))
  have hx : xBring (nI i) 1 (cAt 20 (pvS v 1) (nI i)) = 0 := by
    rw [eA]
    unfold xBring
    rw [if_neg (thg hi), if_neg (by decide), if_pos (by decide), e, e0, if_pos (show nI b ≤ 99999 from nI_le (b := 99999) hb (by decide))]
  have m := p_bringT hx
  rw [eA, e, e0, show nI b - pvS v 1 i = 1 by rw [← e]; generalize pvS v 1 i = x; grind] at m
  exact m
theorem pGift {W : pM} {g : Nat} (hB : bInv B w) (hS : sOk S N) (ht : t < 20) (hn : n ≤ 1000) (hg : g ≤ 60000) : (it (bgStep B S (nI t) (nI n)) 20 (nI g, -9, W)).2.1 = -9 ∨ ∃ i b l, i < 20 ∧ (it (bgStep B S (nI t) (nI n)) 20 (nI g, -9, W)).2.1 = nI i ∧ 1 ≤ b ∧ b ≤ 99999 ∧ S 1 i + 1 = nI b ∧ pGat B (pBr S (nI i) 1) (nI t) (nI n) = nI l ∧ l < g := by
  obtain ⟨l, -, -, h⟩ := pBg_spec hB.1 hB.2.2.1 hS ht hn hg W 20 (Nat.le_refl _)
  rcases h with ⟨h, -⟩ | ⟨i, b, h1, h2, h3, h4, h5, h6, h7⟩
  · exact Or.inl h
  · exact Or.inr ⟨i, b, l, h1, h2, h3, h4, h5, h6, h7⟩
end LWISH
