/-! ===== 05.heap: fields, arrays, new cells over AW ===== -/
theorem zR.closed {D : va_G} {cs : ClassId × ClassId × ClassId} {ρ : Nat → Nat} {sh : zSh} {F : Nat → Nat → Int32} {P : Nat → Nat → Option Nat} {A : Nat → Prop} {H : Heap} (h : zR D cs ρ sh F P A H) : ∀ i j b, sh i ≠ none → P i j = some b → sh b ≠ none := by
  obtain ⟨L, -, -, -, -, h5⟩ := h
  exact h5
theorem zR.put {D : va_G} {cs : ClassId × ClassId × ClassId} {ρ : Nat → Nat} {sh : zSh} {F F' : Nat → Nat → Int32} {P P' : Nat → Nat → Option Nat} {A : Nat → Prop} {H1 : Heap} {L : List Nat} {q0 i : Nat} {e : va_E} {k : Nat ⊕ (Nat × Nat)}
    (h1 : L.Nodup) (h2 : ∀ i, i ∈ L ↔ sh i ≠ none) (hq : L[q0]? = some i) (hi : sh i = some k) (hP : va_P D vwCl ((L.map (zg cs ρ sh F P)).set q0 (ρ i, e)) H1) (hD : va_D A ((L.map (zg cs ρ sh F P)).set q0 (ρ i, e)))
    (he : zE cs ρ k (F' i) (P' i) = e) (ho : ∀ j, j ≠ i → F' j = F j ∧ P' j = P j) (hc : ∀ i j b, sh i ≠ none → P' i j = some b → sh b ≠ none) : zR D cs ρ sh F' P' A H1 := by
  have hg : (L.map (zg cs ρ sh F P)).set q0 (zg cs ρ sh F' P' i) = L.map (zg cs ρ sh F' P') := zset h1 hq (fun j hj => by simp [zg, ho j hj])
  have hgi : zg cs ρ sh F' P' i = (ρ i, e) := by simp [zg, hi, he]
  rw [hgi] at hg
  rw [hg] at hP hD
  exact ⟨L, h1, h2, hP, hD, hc⟩
section ZHEAP
variable {M : ZM} {X : ZX} {Q : State → Prop} {pc : Nat} {ls : List (Option Value)} {st : List Value} {ρ : Nat → Nat} {sh : zSh} {F : Nat → Nat → Int32} {P : Nat → Nat → Option Nat} {k n : Nat}
variable {C : String} {T : u_T} {N ci kf i index : Nat} {ty : FieldType}
theorem aw_getg {v : Value} (f : zFd C T N ci kf ty) (hin : ∀ w ∈ u_ws C T N, w ∈ M.2.2.1) (hlink : zok M X → (Cond.fieldLink M.2.1 index C (T kf).2.1 (T kf).2.2.1).before (zxa X) (zxs X) = true ∨ ∃ host, (Cond.fieldLinkNest M.2.1 index C (T kf).2.1 (T kf).2.2.1 host).before (zxa X) (zxs X) = true) (hsh : sh i = some (.inl ci)) (hv : zfld ty (F i kf) ((P i kf).map ρ) = zV ρ v) (hd : decode M.1 pc = .ok (.getfield index, 3))
    (kk : AW M X Q (pc + 3) ls (v :: st) ρ sh F P k n) : AW M X Q pc ls (.ref i :: st) ρ sh F P k n := by
  intro ok e el H locs lsA r hS hl
  obtain ⟨L, q0, h1, h2, h3, h4, h5, h6⟩ := r.place hsh
  obtain ⟨f1, f2, f3, f4, f5, f6, f7, f8⟩ := f
  have h6' : (L.map (zg (zxC X) ρ sh F P))[q0]? = some (ρ i, .inr (ci, (List.range (zN ci)).map (fun j => zfld (zT ci j) (F i j) ((P i j).map ρ)))) := h6
  have hg : ((List.range (zN ci)).map (fun j => zfld (zT ci j) (F i j) ((P i j).map ρ)))[kf]? = some (zV ρ v) := by
    rw [zfs_get (by rw [f2]; exact f3), f4, hv]
  rcases hlink ok with hlk | ⟨host, hlk⟩
  · exact va_get ok.1 ok.2.1 ok.2.2.2.2.1 hin ok.2.2.2.1 ok.2.2.2.2.2.2.2.2.1.1 h3 q0 h6' f1 kf f3 hlk (fun _ h => by rw [f6] at h; exact h) hg hd (kk ok e el H locs lsA r hS hl)
  · exact va_getN ok.1 ok.2.1 ok.2.2.2.2.1 hin ok.2.2.2.1 ok.2.2.2.2.2.2.2.2.1.1 h3 q0 h6' f1 kf f3 hlk (fun _ h => by rw [f6] at h; exact h) hg hd (kk ok e el H locs lsA r hS hl)
theorem zlink (h : Cond.fieldLink M.2.1 index C (T kf).2.1 (T kf).2.2.1 ∈ M.2.2.1) : zok M X → (Cond.fieldLink M.2.1 index C (T kf).2.1 (T kf).2.2.1).before (zxa X) (zxs X) = true ∨ ∃ host, (Cond.fieldLinkNest M.2.1 index C (T kf).2.1 (T kf).2.2.1 host).before (zxa X) (zxs X) = true :=
  fun ok => Or.inl (ok.2.2.2.2.1 _ h)
theorem zlinkN {q : Nat} (h : zNF[q]? = some (M.2.1, index, C, (T kf).2.1, (T kf).2.2.1, RX6)) : zok M X → (Cond.fieldLink M.2.1 index C (T kf).2.1 (T kf).2.2.1).before (zxa X) (zxs X) = true ∨ ∃ host, (Cond.fieldLinkNest M.2.1 index C (T kf).2.1 (T kf).2.2.1 host).before (zxa X) (zxs X) = true :=
  fun ok => Or.inr ⟨RX6, va_Nw.use rfl (ok.2.2.2.2.2.2.2.2.1.2.2.1 _ (List.mem_of_getElem? h))⟩
/-- a number's field -/
theorem aw_getI (f : zFd C T N ci kf .int) (hin : ∀ w ∈ u_ws C T N, w ∈ M.2.2.1) (hlink : Cond.fieldLink M.2.1 index C (T kf).2.1 (T kf).2.2.1 ∈ M.2.2.1) (hsh : sh i = some (.inl ci)) (hd : decode M.1 pc = .ok (.getfield index, 3))
    (kk : AW M X Q (pc + 3) ls (.int (F i kf) :: st) ρ sh F P k n) : AW M X Q pc ls (.ref i :: st) ρ sh F P k n := aw_getg f hin (zlink hlink) hsh rfl hd kk
theorem aw_getIN {q : Nat} (f : zFd C T N ci kf .int) (hin : ∀ w ∈ u_ws C T N, w ∈ M.2.2.1) (hlink : zNF[q]? = some (M.2.1, index, C, (T kf).2.1, (T kf).2.2.1, RX6)) (hsh : sh i = some (.inl ci)) (hd : decode M.1 pc = .ok (.getfield index, 3))
    (kk : AW M X Q (pc + 3) ls (.int (F i kf) :: st) ρ sh F P k n) : AW M X Q pc ls (.ref i :: st) ρ sh F P k n := aw_getg f hin (zlinkN hlink) hsh rfl hd kk
theorem aw_getZ (f : zFd C T N ci kf .boolean) (hin : ∀ w ∈ u_ws C T N, w ∈ M.2.2.1) (hlink : Cond.fieldLink M.2.1 index C (T kf).2.1 (T kf).2.2.1 ∈ M.2.2.1) (hsh : sh i = some (.inl ci)) (hd : decode M.1 pc = .ok (.getfield index, 3))
    (kk : AW M X Q (pc + 3) ls (.int (F i kf) :: st) ρ sh F P k n) : AW M X Q pc ls (.ref i :: st) ρ sh F P k n := aw_getg f hin (zlink hlink) hsh rfl hd kk
/-- a reference's field -/
def zisR (ty : FieldType) : Prop := ∀ x r, zfld ty x r = va_rf r
theorem aw_getR {j : Nat} (f : zFd C T N ci kf ty) (hty : zisR ty) (hp : P i kf = some j) (hin : ∀ w ∈ u_ws C T N, w ∈ M.2.2.1) (hlink : Cond.fieldLink M.2.1 index C (T kf).2.1 (T kf).2.2.1 ∈ M.2.2.1) (hsh : sh i = some (.inl ci)) (hd : decode M.1 pc = .ok (.getfield index, 3))
    (kk : AW M X Q (pc + 3) ls (.ref j :: st) ρ sh F P k n) : AW M X Q pc ls (.ref i :: st) ρ sh F P k n := aw_getg f hin (zlink hlink) hsh (by rw [hty, hp]; rfl) hd kk
theorem aw_getRN {j q : Nat} (f : zFd C T N ci kf ty) (hty : zisR ty) (hp : P i kf = some j) (hin : ∀ w ∈ u_ws C T N, w ∈ M.2.2.1) (hlink : zNF[q]? = some (M.2.1, index, C, (T kf).2.1, (T kf).2.2.1, RX6)) (hsh : sh i = some (.inl ci)) (hd : decode M.1 pc = .ok (.getfield index, 3))
    (kk : AW M X Q (pc + 3) ls (.ref j :: st) ρ sh F P k n) : AW M X Q pc ls (.ref i :: st) ρ sh F P k n := aw_getg f hin (zlinkN hlink) hsh (by rw [hty, hp]; rfl) hd kk
/-- a number put into a field -/
theorem aw_putg {x : Int32} (f : zFd C T N ci kf ty) (hz : ∀ r, zfld ty x r = .int x) (hnar : narrow ty (.int x) = .int x) (hfit : fits ty (.int x) = true) (hfin : (T kf).2.2.2 = false) (hin : ∀ w ∈ u_ws C T N, w ∈ M.2.2.1) (hlink : zok M X → (Cond.fieldLink M.2.1 index C (T kf).2.1 (T kf).2.2.1).before (zxa X) (zxs X) = true ∨ ∃ host, (Cond.fieldLinkNest M.2.1 index C (T kf).2.1 (T kf).2.2.1 host).before (zxa X) (zxs X) = true) (hsh : sh i = some (.inl ci)) (hd : decode M.1 pc = .ok (.putfield index, 3))
    (kk : AW M X Q (pc + 3) ls st ρ sh (zu F i kf x) P k n) : AW M X Q pc ls (.int x :: .ref i :: st) ρ sh F P k n := by
  intro ok e el H locs lsA r hS hl
  obtain ⟨L, q0, h1, h2, h3, h4, h5, h6⟩ := r.place hsh
  obtain ⟨f1, f2, f3, f4, f5, f6, f7, f8⟩ := f
  have h6' : (L.map (zg (zxC X) ρ sh F P))[q0]? = some (ρ i, .inr (ci, (List.range (zN ci)).map (fun j => zfld (zT ci j) (F i j) ((P i j).map ρ)))) := h6
  have hkf : kf < zN ci := by rw [f2]; exact f3
  have he : zE (zxC X) ρ (.inl ci) (zu F i kf x i) (P i) = .inr (ci, ((List.range (zN ci)).map (fun j => zfld (zT ci j) (F i j) ((P i j).map ρ))).set kf (.int x)) := by
    show (Sum.inr (ci, _) : va_E) = _
    rw [zfs_set (g := zu F i kf x i) (q := P i) hkf (by rw [f4]; simp [zu, upd, hz]) (fun j hj => ⟨by simp [zu, upd, hj], rfl⟩)]
  have fin : ∀ (H1 : Heap) (locs1 : List Loc), va_P (zxD X) vwCl ((L.map (zg (zxC X) ρ sh F P)).set q0 (ρ i, .inr (ci, ((List.range (zN ci)).map (fun j => zfld (zT ci j) (F i j) ((P i j).map ρ))).set kf (.int x)))) H1 → va_D (zAx X) ((L.map (zg (zxC X) ρ sh F P)).set q0 (ρ i, .inr (ci, ((List.range (zN ci)).map (fun j => zfld (zT ci j) (F i j) ((P i j).map ρ))).set kf (.int x)))) → va_S (zAx X) (zxs X).heap H1 locs1 → W (zxp X) (zxl X) (zxe X) (zxR X) (zxs X) (zxm X) (zxa X) (zxb X) (zxt X) (zxc X) H1 locs1 k n Q (F0 (zxm X) (pc + 3) lsA (st.map (zV ρ))) :=
    fun H1 locs1 hP hD hS => kk ok e el H1 locs1 lsA (zR.put h1 h2 h5 hsh hP hD he (fun j hj => ⟨by simp [zu, hj], rfl⟩) r.closed) hS hl
  rcases hlink ok with hlk | ⟨host, hlk⟩
  · exact va_put ok.1 ok.2.1 ok.2.2.2.2.1 hin (zT ci) f7 f8 ok.2.2.2.1 ok.2.2.2.2.2.2.2.2.1.1 h3 h4 hS q0 h6' f1 kf f3 hlk (fun _ h => by rw [f6] at h; exact h) hfin f5 hnar hfit (by simpa using hkf) hd fin
  · exact va_putN ok.1 ok.2.1 ok.2.2.2.2.1 hin (zT ci) f7 f8 ok.2.2.2.1 ok.2.2.2.2.2.2.2.2.1.1 h3 h4 hS q0 h6' f1 kf f3 hlk (fun _ h => by rw [f6] at h; exact h) hfin f5 hnar hfit (by simpa using hkf) hd fin
theorem aw_putI {x : Int32} (f : zFd C T N ci kf .int) (hfin : (T kf).2.2.2 = false) (hin : ∀ w ∈ u_ws C T N, w ∈ M.2.2.1) (hlink : Cond.fieldLink M.2.1 index C (T kf).2.1 (T kf).2.2.1 ∈ M.2.2.1) (hsh : sh i = some (.inl ci)) (hd : decode M.1 pc = .ok (.putfield index, 3))
    (kk : AW M X Q (pc + 3) ls st ρ sh (zu F i kf x) P k n) : AW M X Q pc ls (.int x :: .ref i :: st) ρ sh F P k n := aw_putg f (fun _ => rfl) rfl rfl hfin hin (zlink hlink) hsh hd kk
theorem aw_putIN {x : Int32} {q : Nat} (f : zFd C T N ci kf .int) (hfin : (T kf).2.2.2 = false) (hin : ∀ w ∈ u_ws C T N, w ∈ M.2.2.1) (hlink : zNF[q]? = some (M.2.1, index, C, (T kf).2.1, (T kf).2.2.1, RX6)) (hsh : sh i = some (.inl ci)) (hd : decode M.1 pc = .ok (.putfield index, 3))
    (kk : AW M X Q (pc + 3) ls st ρ sh (zu F i kf x) P k n) : AW M X Q pc ls (.int x :: .ref i :: st) ρ sh F P k n := aw_putg f (fun _ => rfl) rfl rfl hfin hin (zlinkN hlink) hsh hd kk
theorem aw_putZ {x : Int32} (hx : x = 0 ∨ x = 1) (f : zFd C T N ci kf .boolean) (hfin : (T kf).2.2.2 = false) (hin : ∀ w ∈ u_ws C T N, w ∈ M.2.2.1) (hlink : Cond.fieldLink M.2.1 index C (T kf).2.1 (T kf).2.2.1 ∈ M.2.2.1) (hsh : sh i = some (.inl ci)) (hd : decode M.1 pc = .ok (.putfield index, 3))
    (kk : AW M X Q (pc + 3) ls st ρ sh (zu F i kf x) P k n) : AW M X Q pc ls (.int x :: .ref i :: st) ρ sh F P k n := aw_putg f (fun _ => rfl) (by rcases hx with rfl | rfl <;> rfl) (by rcases hx with rfl | rfl <;> rfl) hfin hin (zlink hlink) hsh hd kk
/-- a constructor's reference -/
theorem aw_putF {j : Nat} (f : zFd C T N ci kf ty) (hty : zisR ty) (hnar : ∀ a, narrow ty (.ref a) = .ref a) (hfit : ∀ a, fits ty (.ref a) = true) (hfin : (T kf).2.2.2 = true) (hinit : M.2.2.2.2.2.2.2.2 = "<init>") (hdecl : C = M.2.1) (hj : sh j ≠ none) (hin : ∀ w ∈ u_ws C T N, w ∈ M.2.2.1) (hlink : Cond.fieldLink M.2.1 index C (T kf).2.1 (T kf).2.2.1 ∈ M.2.2.1) (hsh : sh i = some (.inl ci)) (hd : decode M.1 pc = .ok (.putfield index, 3))
    (kk : AW M X Q (pc + 3) ls st ρ sh F (zuP P i kf (some j)) k n) : AW M X Q pc ls (.ref j :: .ref i :: st) ρ sh F P k n := by
  intro ok e el H locs lsA r hS hl
  obtain ⟨L, q0, h1, h2, h3, h4, h5, h6⟩ := r.place hsh
  obtain ⟨f1, f2, f3, f4, f5, f6, f7, f8⟩ := f
  have h6' : (L.map (zg (zxC X) ρ sh F P))[q0]? = some (ρ i, .inr (ci, (List.range (zN ci)).map (fun j => zfld (zT ci j) (F i j) ((P i j).map ρ)))) := h6
  have hkf : kf < zN ci := by rw [f2]; exact f3
  have he : zE (zxC X) ρ (.inl ci) (F i) (zuP P i kf (some j) i) = .inr (ci, ((List.range (zN ci)).map (fun j => zfld (zT ci j) (F i j) ((P i j).map ρ))).set kf (.ref (ρ j))) := by
    show (Sum.inr (ci, _) : va_E) = _
    rw [zfs_set (g := F i) (q := zuP P i kf (some j) i) hkf (by rw [f4, hty]; simp [zuP, va_up, va_rf]) (fun j hj => ⟨rfl, by simp [zuP, va_up, hj]⟩)]
  refine va_putF ok.1 ok.2.1 ok.2.2.2.2.1 hin (zT ci) f7 f8 ok.2.2.2.1 ok.2.2.2.2.2.2.2.2.1.1 h3 h4 hS q0 h6' f1 kf f3 (ok.2.2.2.2.1 _ hlink) (fun _ h => by rw [f6] at h; exact h) hfin (by rw [ok.2.2.2.2.2.2.2.2.2]; exact hinit) (by rw [f6]; exact hdecl) f5 (hnar _) (hfit _) (by simpa using hkf) hd (fun H1 locs1 hP hD hS => kk ok e el H1 locs1 lsA (zR.put h1 h2 h5 hsh hP hD he (fun j hj => ⟨rfl, by simp [zuP, hj]⟩) (fun a b c ha hb => ?_)) hS hl)
  by_cases hai : a = i
  · subst hai
    by_cases hbk : b = kf
    · subst hbk
      simp [zuP, va_up] at hb
      rw [← hb]
      exact hj
    · simp [zuP, va_up, hbk] at hb
      exact r.closed a b c ha hb
  · simp [zuP, hai] at hb
    exact r.closed a b c ha hb
/-! arrays -/
theorem zty_I {D : va_G} {cs : ClassId × ClassId × ClassId} : (zty cs)[0]? = some (cs.1, .int) := rfl
theorem zty_S {D : va_G} {cs : ClassId × ClassId × ClassId} : (zty cs)[2]? = some (cs.2.2, .object RX3) := rfl
theorem aw_iaload {z : Nat} {x : Int32} (hsh : sh i = some (.inr (0, z))) (hx : vp_in x z) (hd : decode M.1 pc = .ok (.iaload, 1)) (kk : AW M X Q (pc + 1) ls (.int (F i x.toNatClampNeg) :: st) ρ sh F P k n) : AW M X Q pc ls (.int x :: .ref i :: st) ρ sh F P k n := by
  intro ok e el H locs lsA r hS hl
  obtain ⟨L, q0, h1, h2, h3, h4, h5, h6⟩ := r.place hsh
  exact va_iald ok.1 ok.2.1 ok.2.2.2.2.2.2.2.2.1.1 h3 q0 0 (cA := (zxC X).1) (n := z) (f := F i) h6 rfl hx hd (kk ok e el H locs lsA r hS hl)
theorem aw_aaload {z j : Nat} {x : Int32} (hsh : sh i = some (.inr (2, z))) (hx : vp_in x z) (hp : P i x.toNatClampNeg = some j) (hd : decode M.1 pc = .ok (.aaload, 1)) (kk : AW M X Q (pc + 1) ls (.ref j :: st) ρ sh F P k n) : AW M X Q pc ls (.int x :: .ref i :: st) ρ sh F P k n := by
  intro ok e el H locs lsA r hS hl
  obtain ⟨L, q0, h1, h2, h3, h4, h5, h6⟩ := r.place hsh
  refine va_aldq ok.1 ok.2.1 ok.2.2.2.2.2.2.2.2.1.1 h3 q0 2 (cA := (zxC X).2.2) (C := RX3) (n := z) (f := fun b => (P i b).map ρ) h6 rfl hx hd ?_
  rw [hp]
  exact kk ok e el H locs lsA r hS hl
theorem aw_aaloadN {z : Nat} {x : Int32} (hsh : sh i = some (.inr (2, z))) (hx : vp_in x z) (hp : P i x.toNatClampNeg = none) (hd : decode M.1 pc = .ok (.aaload, 1)) (kk : AW M X Q (pc + 1) ls (.null :: st) ρ sh F P k n) : AW M X Q pc ls (.int x :: .ref i :: st) ρ sh F P k n := by
  intro ok e el H locs lsA r hS hl
  obtain ⟨L, q0, h1, h2, h3, h4, h5, h6⟩ := r.place hsh
  refine va_aldq ok.1 ok.2.1 ok.2.2.2.2.2.2.2.2.1.1 h3 q0 2 (cA := (zxC X).2.2) (C := RX3) (n := z) (f := fun b => (P i b).map ρ) h6 rfl hx hd ?_
  rw [hp]
  exact kk ok e el H locs lsA r hS hl
theorem aw_alen {t z : Nat} {v : Int32} (ht : t < 3) (hsh : sh i = some (.inr (t, z))) (hv : Int32.ofNat z = v) (hd : decode M.1 pc = .ok (.arraylength, 1)) (kk : AW M X Q (pc + 1) ls (.int v :: st) ρ sh F P k n) : AW M X Q pc ls (.ref i :: st) ρ sh F P k n := by
  intro ok e el H locs lsA r hS hl
  obtain ⟨L, q0, h1, h2, h3, h4, h5, h6⟩ := r.place hsh
  match t, ht, h6 with
  | 0, _, h6 => exact va_alen ok.1 ok.2.1 ok.2.2.2.2.2.2.2.2.1.1 h3 q0 0 (cA := (zxC X).1) (x := (z, .inl (F i))) h6 rfl hv hd (kk ok e el H locs lsA r hS hl)
  | 1, _, h6 => exact va_alen ok.1 ok.2.1 ok.2.2.2.2.2.2.2.2.1.1 h3 q0 1 (cA := (zxC X).2.1) (x := (z, .inl (F i))) h6 rfl hv hd (kk ok e el H locs lsA r hS hl)
  | 2, _, h6 => exact va_alen ok.1 ok.2.1 ok.2.2.2.2.2.2.2.2.1.1 h3 q0 2 (cA := (zxC X).2.2) (x := (z, .inr (.inr (.inr (.inr (fun b => (P i b).map ρ)))))) h6 rfl hv hd (kk ok e el H locs lsA r hS hl)
theorem aw_iastore {z : Nat} {x y : Int32} (hsh : sh i = some (.inr (0, z))) (hx : vp_in x z) (hd : decode M.1 pc = .ok (.iastore, 1)) (kk : AW M X Q (pc + 1) ls st ρ sh (zu F i x.toNatClampNeg y) P k n) : AW M X Q pc ls (.int y :: .int x :: .ref i :: st) ρ sh F P k n := by
  intro ok e el H locs lsA r hS hl
  obtain ⟨L, q0, h1, h2, h3, h4, h5, h6⟩ := r.place hsh
  exact va_iast ok.1 ok.2.1 ok.2.2.2.2.2.2.2.2.1.1 h3 h4 hS q0 0 (cA := (zxC X).1) (n := z) (f := F i) h6 rfl hx hd (fun H1 locs1 hP hD hS => kk ok e el H1 locs1 lsA (zR.put h1 h2 h5 hsh hP hD (by simp [zE, zu]) (fun j hj => ⟨by simp [zu, hj], rfl⟩) r.closed) hS hl)
theorem aw_aastore {z j : Nat} {x : Int32} (hsh : sh i = some (.inr (2, z))) (hj : sh j = some (.inl 3)) (hx : vp_in x z) (hd : decode M.1 pc = .ok (.aastore, 1)) (kk : AW M X Q (pc + 1) ls st ρ sh F (zuP P i x.toNatClampNeg (some j)) k n) : AW M X Q pc ls (.ref j :: .int x :: .ref i :: st) ρ sh F P k n := by
  intro ok e el H locs lsA r hS hl
  obtain ⟨L, q0, h1, h2, h3, h4, h5, h6⟩ := r.place hsh
  obtain ⟨q1, hq1⟩ := List.getElem?_of_mem ((h2 j).mpr (by rw [hj]; exact fun e => by cases e))
  have h7 : (L.map (zg (zxC X) ρ sh F P))[q1]? = some (ρ j, zE (zxC X) ρ (.inl 3) (F j) (P j)) := by
    rw [List.getElem?_map, hq1]
    simp [zg, hj]
  refine va_astq ok.1 ok.2.1 ok.2.2.2.2.2.2.2.2.1.1 h3 h4 hS q0 2 q1 3 (cA := (zxC X).2.2) (r := (RX3, TX3, 2)) (n := z) (f := fun b => (P i b).map ρ) h6 rfl h7 rfl hx hd (fun H1 locs1 hP hD hS => kk ok e el H1 locs1 lsA (zR.put h1 h2 h5 hsh hP hD ?_ (fun j hj => ⟨rfl, by simp [zuP, hj]⟩) (fun a b c ha hb => ?_)) hS hl)
  · simp only [zE, zuP, if_pos]
    congr 7
    funext b
    by_cases hb : b = x.toNatClampNeg <;> simp [va_up, hb]
  · by_cases hai : a = i
    · subst hai
      by_cases hbk : b = x.toNatClampNeg
      · subst hbk
        simp [zuP, va_up] at hb
        rw [← hb, hj]
        exact fun e => by cases e
      · simp [zuP, va_up, hbk] at hb
        exact r.closed a b c ha hb
    · simp [zuP, hai] at hb
      exact r.closed a b c ha hb
end ZHEAP

