/-! ===== 03.frame: the abstract heap by ids, and one judgement AW over it ===== -/
abbrev zSh : Type := Nat → Option (Nat ⊕ (Nat × Nat))
def zN : Nat → Nat := fun c => match c with
  | 0 => 8
  | 1 => 3
  | 2 => 8
  | 3 => 2
  | 4 => 7
  | 5 => 5
  | _ => 11
def zT : Nat → Nat → FieldType := fun c => match c with
  | 0 => tyX0
  | 1 => tyX1
  | 2 => tyX2
  | 3 => tyX3
  | 4 => tyX4
  | 5 => tyX5
  | _ => tyX6
def zfld (ty : FieldType) (x : Int32) (r : Option Nat) : Value := match ty with
  | .int => .int x
  | .boolean => .int x
  | _ => va_rf r
def zV (ρ : Nat → Nat) (v : Value) : Value := match v with
  | .ref a => .ref (ρ a)
  | v => v
def zE (cs : ClassId × ClassId × ClassId) (ρ : Nat → Nat) (k : Nat ⊕ (Nat × Nat)) (f : Nat → Int32) (p : Nat → Option Nat) : va_E := match k with
  | .inl c => .inr (c, (List.range (zN c)).map (fun j => zfld (zT c j) (f j) ((p j).map ρ)))
  | .inr (0, n) => .inl (cs.1, n, .inl f)
  | .inr (1, n) => .inl (cs.2.1, n, .inl f)
  | .inr (_, n) => .inl (cs.2.2, n, .inr (.inr (.inr (.inr (fun j => (p j).map ρ)))))
def zg (cs : ClassId × ClassId × ClassId) (ρ : Nat → Nat) (sh : zSh) (F : Nat → Nat → Int32) (P : Nat → Nat → Option Nat) (i : Nat) : Nat × va_E := (ρ i, zE cs ρ ((sh i).getD (.inl 0)) (F i) (P i))
def zR (D : va_G) (cs : ClassId × ClassId × ClassId) (ρ : Nat → Nat) (sh : zSh) (F : Nat → Nat → Int32) (P : Nat → Nat → Option Nat) (A : Nat → Prop) (H : Heap) : Prop :=
  ∃ L : List Nat, L.Nodup ∧ (∀ i, i ∈ L ↔ sh i ≠ none) ∧ va_P D vwCl (L.map (zg cs ρ sh F P)) H ∧ va_D A (L.map (zg cs ρ sh F P)) ∧ ∀ i j b, sh i ≠ none → P i j = some b → sh b ≠ none
def zNM : List (String × Nat × MethodName × String) := [(RX6, 21, yX4_init, RX6), (RX6, 256, yX3_init, RX6), (RX6, 28, yX5_init, RX6), (RX6, 35, yX1_init, RX6), (RX6, 48, yX2_init, RX6), (RX0, 106, yX6_hasBit, RX6), (RX0, 42, yX6_copy, RX6), (RX0, 46, yX6_at, RX6), (RX0, 82, yX6_put, RX6), (RX1, 28, yX6_roomAt, RX6), (RX1, 36, yX6_stateAt, RX6), (RX2, 67, yX6_put, RX6), (RX2, 70, yX6_at, RX6), (RX2, 73, yX6_isThing, RX6), (RX3, 18, yX4_init, RX6), (RX4, 30, yX6_copy, RX6), (RX5, 11, yX4_init, RX6), (RX5, 40, yX6_add, RX6), (RX5, 44, yX6_at, RX6), (RX5, 66, yX6_divideUp, RX6)]
def zNF : List (String × Nat × String × String × String × String) := [(RX6, 137, RX4, "amounts", "[I", RX6), (RX6, 154, RX4, "brought", "[I", RX6), (RX6, 191, RX4, "gathered", "[I", RX6), (RX6, 194, RX4, "batches", "I", RX6), (RX6, 206, RX4, "made", "[I", RX6), (RX6, 208, RX4, "used", "[I", RX6), (RX6, 211, RX4, "returned", "[I", RX6), (RX6, 228, RX5, "bench", "LThingMaker$Stock;", RX6), (RX6, 71, RX2, "faultKind", "I", RX6), (RX6, 72, RX2, "faultPlace", "I", RX6), (RX6, 89, RX2, "made", "I", RX6), (RX0, 73, RX2, "made", "I", RX6), (RX0, 79, RX2, "yielded", "I", RX6), (RX0, 86, RX2, "count", "I", RX6), (RX0, 89, RX2, "ingredients", "[I", RX6), (RX0, 90, RX2, "amounts", "[I", RX6), (RX5, 113, RX4, "used", "[I", RX6), (RX5, 119, RX4, "returned", "[I", RX6), (RX5, 122, RX4, "gathered", "[I", RX6), (RX5, 36, RX4, "amounts", "[I", RX6), (RX5, 86, RX4, "made", "[I", RX6), (RX5, 93, RX4, "batches", "I", RX6)]
def zty (cs : ClassId × ClassId × ClassId) : List (ClassId × FieldType) := [(cs.1, .int), (cs.2.1, .int), (cs.2.2, .object RX3)]
def zK (D : va_G) (cs : ClassId × ClassId × ClassId) (U : State) : Prop := va_K D vwCl (zty cs) U ∧ (∀ q ∈ zNM, va_Nw (.methodLinkNest q.1 q.2.1 q.2.2.1 q.2.2.2) U) ∧ (∀ q ∈ zNF, va_Nw (.fieldLinkNest q.1 q.2.1 q.2.2.1 q.2.2.2.1 q.2.2.2.2.1 q.2.2.2.2.2) U) ∧ va_AO RX3 U
theorem zK.warm {D : va_G} {cs : ClassId × ClassId × ClassId} {s U : State} (h : zK D cs s) (hW : s.WarmedH U.vm) : zK D cs U :=
  ⟨va_K.moved hW.alike h.1, fun q hq => va_Nw.warmM hW (h.2.1 q hq), fun q hq => va_Nw.warmF hW (h.2.2.1 q hq), va_AO.moved hW.alike h.2.2.2⟩
theorem zK.same {D : va_G} {cs : ClassId × ClassId × ClassId} {s U : State} (h : zK D cs s) (e : s.vm = U.vm) : zK D cs U :=
  ⟨va_K.moved (by rw [e]; exact Vm.Alike.refl U.vm) h.1, fun q hq => va_Nw.same rfl e (h.2.1 q hq), fun q hq => va_Nw.same rfl e (h.2.2.1 q hq), va_AO.moved (by rw [e]; exact Vm.Alike.refl U.vm) h.2.2.2⟩
def zA (ρ : Nat → Nat) (sh : zSh) (sz : Nat) : Nat → Prop := fun q => (∃ i, sh i ≠ none ∧ ρ i = q) ∨ sz ≤ q
def zExt (ρ : Nat → Nat) (sh : zSh) (ρ' : Nat → Nat) (sh' : zSh) : Prop := (∀ i, ρ' i ≠ ρ i → sh i = none ∧ sh' i ≠ none) ∧ ∀ i, sh i ≠ none → sh' i = sh i
theorem zExt.refl {ρ : Nat → Nat} {sh : zSh} : zExt ρ sh ρ sh := ⟨fun _ h => absurd rfl h, fun _ _ => rfl⟩
theorem zExt.dom {ρ ρ' : Nat → Nat} {sh sh' : zSh} (h : zExt ρ sh ρ' sh') {i : Nat} (hi : sh i ≠ none) : ρ' i = ρ i ∧ sh' i ≠ none := by
  refine ⟨?_, by rw [h.2 i hi]; exact hi⟩
  by_cases e : ρ' i = ρ i
  · exact e
  · exact absurd (h.1 i e).1 hi
theorem zExt.trans {ρ ρ' ρ'' : Nat → Nat} {sh sh' sh'' : zSh} (h : zExt ρ sh ρ' sh') (g : zExt ρ' sh' ρ'' sh'') : zExt ρ sh ρ'' sh'' := by
  refine ⟨fun i hi => ?_, fun i hi => ?_⟩
  · by_cases e : ρ' i = ρ i
    · have h2 := g.1 i (by rw [e]; exact hi)
      refine ⟨?_, h2.2⟩
      by_cases hs : sh i = none
      · exact hs
      · exact absurd h2.1 (h.dom hs).2
    · have h1 := h.1 i e
      refine ⟨h1.1, ?_⟩
      rw [g.2 i h1.2]
      exact h1.2
  · rw [g.2 i (h.dom hi).2, h.2 i hi]
theorem zExt.same {ρ ρ' : Nat → Nat} {sh : zSh} (h : zExt ρ sh ρ' sh) : ρ' = ρ := by
  funext i
  by_cases e : ρ' i = ρ i
  · exact e
  · exact absurd (h.1 i e).1 (h.1 i e).2
def zc1 (v : Value) : Prop := v.category = 1
def zL (lsA : Array Slot) (ρ : Nat → Nat) (ls : List (Option Value)) : Prop := lsA.size = ls.length ∧ lv_wf lsA ∧ ∀ (i : Nat) (v : Value), ls[i]? = some (some v) → lsA[i]? = some (Slot.val (zV ρ v)) ∧ zc1 v
/-- a method, for good: its bytes, class, words, height, new cells, their slots, what it returns, locals, name -/
abbrev ZM : Type := ByteArray × String × List Cond × Nat × Nat × Nat × Option FieldType × Nat × String
def zrm (h mc ms : Nat) : Room := { frames := h + 2, cells := mc, slots := ms, locals := 60 * (h + 1) }
abbrev ZX : Type := Program × Launch × Env × Room × State × MethodId × Array Value × List Frame × Method × Code × va_G × (ClassId × ClassId × ClassId) × (Nat → Nat) × zSh
abbrev zxp (X : ZX) : Program := X.1
abbrev zxl (X : ZX) : Launch := X.2.1
abbrev zxe (X : ZX) : Env := X.2.2.1
abbrev zxR (X : ZX) : Room := X.2.2.2.1
abbrev zxs (X : ZX) : State := X.2.2.2.2.1
abbrev zxm (X : ZX) : MethodId := X.2.2.2.2.2.1
abbrev zxa (X : ZX) : Array Value := X.2.2.2.2.2.2.1
abbrev zxb (X : ZX) : List Frame := X.2.2.2.2.2.2.2.1
abbrev zxt (X : ZX) : Method := X.2.2.2.2.2.2.2.2.1
abbrev zxc (X : ZX) : Code := X.2.2.2.2.2.2.2.2.2.1
abbrev zxD (X : ZX) : va_G := X.2.2.2.2.2.2.2.2.2.2.1
abbrev zxC (X : ZX) : ClassId × ClassId × ClassId := X.2.2.2.2.2.2.2.2.2.2.2.1
abbrev zxr (X : ZX) : Nat → Nat := X.2.2.2.2.2.2.2.2.2.2.2.2.1
abbrev zxh (X : ZX) : zSh := X.2.2.2.2.2.2.2.2.2.2.2.2.2
def zAx (X : ZX) : Nat → Prop := zA (zxr X) (zxh X) (zxs X).heap.size
/-- what holds all through the method: the machine, its code, its words -/
def zok (M : ZM) (X : ZX) : Prop :=
  (zxp X).tables.exec = Jvm.exec ∧ (zxc X).code = M.1 ∧ (zxc X).maxLocals = M.2.2.2.2.2.2.2.1 ∧ (zxs X).vm.findClass M.2.1 = some (zxm X).cls ∧ (∀ w ∈ M.2.2.1, w.before (zxa X) (zxs X) = true) ∧ (zxt X).locks = false ∧ (zxt X).sig.returnType = M.2.2.2.2.2.2.1 ∧ zxR X = zrm M.2.2.2.1 M.2.2.2.2.1 M.2.2.2.2.2.1 ∧ zK (zxD X) (zxC X) (zxs X) ∧ (zxt X).name = M.2.2.2.2.2.2.2.2
def AW (M : ZM) (X : ZX) (Q : State → Prop) (pc : Nat) (ls : List (Option Value)) (st : List Value) (ρ : Nat → Nat) (sh : zSh) (F : Nat → Nat → Int32) (P : Nat → Nat → Option Nat) (k n : Nat) : Prop :=
  zok M X → zExt (zxr X) (zxh X) ρ sh → ls.length = M.2.2.2.2.2.2.2.1 → ∀ (H : Heap) (locs : List Loc) (lsA : Array Slot), zR (zxD X) (zxC X) ρ sh F P (zAx X) H → va_S (zAx X) (zxs X).heap H locs → zL lsA ρ ls →
    W (zxp X) (zxl X) (zxe X) (zxR X) (zxs X) (zxm X) (zxa X) (zxb X) (zxt X) (zxc X) H locs k n Q (F0 (zxm X) pc lsA (st.map (zV ρ)))
/-! the end of a method -/
def zPost (D : va_G) (cs : ClassId × ClassId × ClassId) (ρ : Nat → Nat) (sh : zSh) (sz : Nat) (r : Option Value) (sh' : zSh) (F' : Nat → Nat → Int32) (P' : Nat → Nat → Option Nat) : Array Value → State → Outcome → State → Prop :=
  fun _ st oc t => (∃ ρ' : Nat → Nat, oc = .returned (r.map (zV ρ')) ∧ zExt ρ sh ρ' sh' ∧ zR D cs ρ' sh' F' P' (zA ρ sh sz) t.heap) ∧ va_F (zA ρ sh sz) st t
def zPre (D : va_G) (cs : ClassId × ClassId × ClassId) (ρ : Nat → Nat) (sh : zSh) (F : Nat → Nat → Int32) (P : Nat → Nat → Option Nat) (sz : Nat) : State → Prop :=
  fun U => U.heap.size = sz ∧ zR D cs ρ sh F P (fun _ => True) U.heap ∧ zK D cs U
def zMet (y : MethodName) (ws : List Cond) (h mc ms : Nat) (as : List Value) (sh : zSh) (F : Nat → Nat → Int32) (P : Nat → Nat → Option Nat) (r : Option Value) (sh' : zSh) (F' : Nat → Nat → Int32) (P' : Nat → Nat → Option Nat) : Prop :=
  ∀ (l : Launch) (D : va_G) (cs : ClassId × ClassId × ClassId) (ρ : Nat → Nat) (sz : Nat), Met l y ws (zrm h mc ms) (va_Pc (as.map (zV ρ)) (zPre D cs ρ sh F P sz)) (zPost D cs ρ sh sz r sh' F' P') mc ms (zA ρ sh sz)
def zMQ (M : ZM) (X : ZX) (r : Option Value) (sh' : zSh) (F' : Nat → Nat → Int32) (P' : Nat → Nat → Option Nat) : State → Prop :=
  MQ (zxb X) (zPost (zxD X) (zxC X) (zxr X) (zxh X) (zxs X).heap.size r sh' F' P') (zxa X) (zxs X) M.2.2.2.2.1 M.2.2.2.2.2.1 (zAx X)
theorem zR.weaken {D : va_G} {cs : ClassId × ClassId × ClassId} {ρ : Nat → Nat} {sh : zSh} {F : Nat → Nat → Int32} {P : Nat → Nat → Option Nat} {A B : Nat → Prop} {H : Heap} (h : zR D cs ρ sh F P A H) (hB : ∀ i, sh i ≠ none → A (ρ i) → B (ρ i)) : zR D cs ρ sh F P B H := by
  obtain ⟨L, h1, h2, h3, h4, h5⟩ := h
  refine ⟨L, h1, h2, h3, h4.weaken (fun k q hk hq => ?_), h5⟩
  obtain ⟨i, hi, rfl⟩ := List.mem_map.mp (List.mem_of_getElem? hk)
  exact hB i ((h2 i).mp hi) hq
theorem zR.place {D : va_G} {cs : ClassId × ClassId × ClassId} {ρ : Nat → Nat} {sh : zSh} {F : Nat → Nat → Int32} {P : Nat → Nat → Option Nat} {A : Nat → Prop} {H : Heap} (h : zR D cs ρ sh F P A H) {i : Nat} {k : Nat ⊕ (Nat × Nat)} (hi : sh i = some k) :
    ∃ (L : List Nat) (q0 : Nat), L.Nodup ∧ (∀ i, i ∈ L ↔ sh i ≠ none) ∧ va_P D vwCl (L.map (zg cs ρ sh F P)) H ∧ va_D A (L.map (zg cs ρ sh F P)) ∧ L[q0]? = some i ∧ (L.map (zg cs ρ sh F P))[q0]? = some (ρ i, zE cs ρ k (F i) (P i)) := by
  obtain ⟨L, h1, h2, h3, h4, -⟩ := h
  obtain ⟨q0, hq⟩ := List.getElem?_of_mem ((h2 i).mpr (by rw [hi]; exact fun e => by cases e))
  refine ⟨L, q0, h1, h2, h3, h4, hq, ?_⟩
  rw [List.getElem?_map, hq]
  simp [zg, hi]
/-- a cell written -/
theorem zset {L : List Nat} {g g' : Nat → Nat × va_E} {q0 i : Nat} (hn : L.Nodup) (hq : L[q0]? = some i) (hg : ∀ j, j ≠ i → g' j = g j) : (L.map g).set q0 (g' i) = L.map g' := by
  have hl := (List.getElem?_eq_some_iff.mp hq).1
  refine List.ext_getElem? fun k => ?_
  by_cases hk : k = q0
  · subst hk
    rw [List.getElem?_set_self (by simpa using hl), List.getElem?_map, hq]
    rfl
  · rw [List.getElem?_set_ne (Ne.symm hk), List.getElem?_map, List.getElem?_map]
    cases hx : L[k]? with
    | none => rfl
    | some j =>
      have hj : j ≠ i := by
        intro e
        subst e
        exact hk ((List.getElem?_inj (List.getElem?_eq_some_iff.mp hx).1 hn).mp (hx.trans hq.symm))
      simp [hg j hj]
def zu (F : Nat → Nat → Int32) (i k : Nat) (x : Int32) : Nat → Nat → Int32 := fun j => if j = i then upd (F i) k x else F j
def zuP (P : Nat → Nat → Option Nat) (i k : Nat) (x : Option Nat) : Nat → Nat → Option Nat := fun j => if j = i then va_up (P i) k x else P j
/-! locals -/
theorem zV_cat (ρ : Nat → Nat) (v : Value) : (zV ρ v).category = v.category := by cases v <;> rfl
def zp (ρ : Nat → Nat) (ls : List (Option Value)) : List (Nat × Value) := (List.range ls.length).filterMap (fun i => match ls[i]? with
  | some (some v) => some (i, zV ρ v)
  | _ => none)
theorem zp_mem {ρ : Nat → Nat} {ls : List (Option Value)} {i : Nat} {v : Value} (h : ls[i]? = some (some v)) : (i, zV ρ v) ∈ zp ρ ls := by
  refine List.mem_filterMap.mpr ⟨i, List.mem_range.mpr (List.getElem?_eq_some_iff.mp h).1, ?_⟩
  rw [h]
theorem zp_of {ρ : Nat → Nat} {ls : List (Option Value)} {q : Nat × Value} (h : q ∈ zp ρ ls) : ∃ v, ls[q.1]? = some (some v) ∧ q.2 = zV ρ v := by
  obtain ⟨i, -, hi⟩ := List.mem_filterMap.mp h
  cases hv : ls[i]? with
  | none => rw [hv] at hi; cases hi
  | some o =>
    cases o with
    | none => rw [hv] at hi; cases hi
    | some v =>
      rw [hv] at hi
      cases hi
      exact ⟨v, hv, rfl⟩
theorem zL_has {lsA : Array Slot} {ρ : Nat → Nat} {ls : List (Option Value)} (h : zL lsA ρ ls) : lv_has lsA ls.length (zp ρ ls) :=
  ⟨h.1, h.2.1, fun q hq => by
    obtain ⟨v, h1, h2⟩ := zp_of hq
    rw [h2]
    exact (h.2.2 _ _ h1).1⟩
theorem zL_back {lsA ls' : Array Slot} {ρ : Nat → Nat} {ls : List (Option Value)} {i : Nat} {v : Value} (h : zL lsA ρ ls)
    (h' : lv_has ls' ls.length ((i, zV ρ v) :: (zp ρ ls).filter (fun q => !(q.1 == i) && !(q.1 + 1 == i && q.2.category == 2)))) (hc : v.category = 1) : zL ls' ρ (ls.set i (some v)) := by
  refine ⟨by rw [List.length_set]; exact h'.1, h'.2.1, fun j u hj => ?_⟩
  by_cases e : j = i
  · subst e
    rw [List.getElem?_set] at hj
    rw [if_pos rfl] at hj
    split at hj
    · cases hj
      exact ⟨h'.2.2 _ List.mem_cons_self, hc⟩
    · cases hj
  · rw [List.getElem?_set_ne (Ne.symm e)] at hj
    refine ⟨h'.2.2 (j, zV ρ u) (List.mem_cons_of_mem _ (List.mem_filter.mpr ⟨zp_mem hj, ?_⟩)), (h.2.2 _ _ hj).2⟩
    have hu : u.category = 1 := (h.2.2 _ _ hj).2
    simp [e, zV_cat, hu]
theorem zL_ext {lsA : Array Slot} {ρ ρ' : Nat → Nat} {ls : List (Option Value)} (h : zL lsA ρ ls) (hr : ∀ j, some (Value.ref j) ∈ ls → ρ' j = ρ j) : zL lsA ρ' ls := by
  refine ⟨h.1, h.2.1, fun i v hv => ?_⟩
  obtain ⟨h1, h2⟩ := h.2.2 i v hv
  refine ⟨?_, h2⟩
  rw [h1]
  cases v with
  | ref j => simp [zV, hr j (List.mem_of_getElem? hv)]
  | _ => rfl
theorem zst_ext {ρ ρ' : Nat → Nat} {st : List Value} (hr : ∀ j, Value.ref j ∈ st → ρ' j = ρ j) : st.map (zV ρ') = st.map (zV ρ) := by
  refine List.map_congr_left fun v hv => ?_
  cases v with
  | ref j => simp [zV, hr j hv]
  | _ => rfl
/-! fields -/
def zFd (C : String) (T : u_T) (N ci kf : Nat) (ty : FieldType) : Prop :=
  vwCl[ci]? = some (C, T, N) ∧ zN ci = N ∧ kf < N ∧ zT ci kf = ty ∧ parseFieldDescriptor (T kf).2.2.1 = some ty ∧ (T kf).1 = C ∧ (∀ k, k < N → parseFieldDescriptor (T k).2.2.1 = some (zT ci k)) ∧ ∀ a, a < N → ∀ b, b < N → a ≠ b → (T a).2.1 ≠ (T b).2.1
theorem zfs_get {ρ : Nat → Nat} {c kf : Nat} {f : Nat → Int32} {p : Nat → Option Nat} (h : kf < zN c) : ((List.range (zN c)).map (fun j => zfld (zT c j) (f j) ((p j).map ρ)))[kf]? = some (zfld (zT c kf) (f kf) ((p kf).map ρ)) := by
  rw [List.getElem?_map, List.getElem?_range h]
  rfl
theorem zfs_set {ρ : Nat → Nat} {c kf : Nat} {f g : Nat → Int32} {p q : Nat → Option Nat} {v : Value} (h : kf < zN c) (hv : zfld (zT c kf) (g kf) ((q kf).map ρ) = v) (hg : ∀ j, j ≠ kf → g j = f j ∧ q j = p j) :
    ((List.range (zN c)).map (fun j => zfld (zT c j) (f j) ((p j).map ρ))).set kf v = (List.range (zN c)).map (fun j => zfld (zT c j) (g j) ((q j).map ρ)) := by
  refine List.ext_getElem? fun k => ?_
  by_cases hk : k = kf
  · subst hk
    rw [List.getElem?_set_self (by simpa using h), zfs_get h, hv]
  · rw [List.getElem?_set_ne (Ne.symm hk), List.getElem?_map, List.getElem?_map]
    cases hx : (List.range (zN c))[k]? with
    | none => rfl
    | some j =>
      have hj : j = k := by
        have h1 := List.getElem?_eq_some_iff.mp hx
        obtain ⟨h2, h3⟩ := h1
        simpa using h3.symm
      subst hj
      simp [hg j hk]
def zCal (y : MethodName) (w : List Cond) (na : Nat) (ret : Option FieldType) : Prop := (∃ (bytes : ByteArray) (maxL : Nat) (w' : List Cond), w = Cond.code y bytes maxL ret :: w' ∧ maxL ≤ 41) ∧ y.cls ≠ "java/lang/invoke/MethodHandle" ∧ y.cls ≠ "java/lang/invoke/VarHandle" ∧ (parseMethodDescriptor y.desc).map (fun d => d.parameters.length) = some na

