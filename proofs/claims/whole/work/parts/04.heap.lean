/-! ===== rows of the heap ===== -/
/-- a field of the class ci, named by the pool of own -/
def zFl (own : String) (idx ci k : Nat) : Prop := ∃ (C : String) (T : u_T) (N : Nat), vwCl[ci]? = some (C, T, N) ∧ k < N ∧ (T k).1 = C ∧ Cond.fieldLink own idx C (T k).2.1 (T k).2.2.1 ∈ zAL ∧ (∀ w ∈ u_ws C T N, w ∈ zAL)
/-- it may be written by any method; its type -/
def zFp (ci k : Nat) (ft : FieldType) : Prop := ∃ (C : String) (T : u_T) (N : Nat) (ty : Nat → FieldType), vwCl[ci]? = some (C, T, N) ∧ (T k).2.2.2 = false ∧ (∀ j, j < N → parseFieldDescriptor (T j).2.2.1 = some (ty j)) ∧ (∀ a, a < N → ∀ b, b < N → a ≠ b → (T a).2.1 ≠ (T b).2.1) ∧ parseFieldDescriptor (T k).2.2.1 = some ft
theorem zup_fvs (w : zW) (σ : zM) (c : Nat) (v : Int) (f : zF) (val : Value) : ∀ (fs : List zF) (j k : Nat), fs[k]? = some f → zfv w (zup σ c ((j + k : Nat) : Int) v) c (j + k) f = val → zfvs w (zup σ c ((j + k : Nat) : Int) v) c j fs = (zfvs w σ c j fs).set k val
  | [], j, k, h, _ => by simp at h
  | g :: t, j, 0, h, hv => by
    simp at h; subst h
    simp only [zfvs, List.set_cons_zero]
    rw [show j + 0 = j from rfl] at hv ⊢
    rw [hv]
    congr 1
    have : ∀ (t : List zF) (i : Nat), j < i → zfvs w (zup σ c (j : Int) v) c i t = zfvs w σ c i t := by
      intro t
      induction t with
      | nil => intro i _; rfl
      | cons f t ih =>
        intro i hi
        simp only [zfvs]
        rw [ih (i + 1) (by omega)]
        congr 1
        unfold zfv
        have e : zup σ c (j : Int) v c (i : Int) = σ c i := zup_nei (by omega)
        split <;> simp [e]
    exact this t (j + 1) (by omega)
  | g :: t, j, k + 1, h, hv => by
    simp only [List.getElem?_cons_succ] at h
    simp only [zfvs, List.set_cons_succ]
    rw [show j + (k + 1) = j + 1 + k by omega] at hv ⊢
    rw [zup_fvs w σ c v f val t (j + 1) k h hv]
    congr 1
    unfold zfv
    have e : zup σ c ((j + 1 + k : Nat) : Int) v c (j : Int) = σ c j := zup_nei (by omega)
    split <;> first | rw [e] | rfl
section ZH
variable {Γ : zG} {own : String} {b : ByteArray} {mL d : Nat} {σ : zM} {k n : Nat} {pc q t : Nat} {ls : List (Option Value)} {st : List Value} {x y : Int} {c ci idx j : Nat} {fs : List zF}
theorem z_getw (h : zOk Γ own b mL d) {ws : va_W} {a : Nat} {vs : List Value} {v : Value} (hd : zD b pc (.getfield idx) 3 q) (hf : zFl own idx ci j) (p0 : Nat) (hc : ws[p0]? = some (a, .inr (ci, vs))) (hv : vs[j]? = some v) (kk : zVw Γ ws k n q ls (v :: st)) : zVw Γ ws k n pc ls (.ref a :: st) := by
  obtain ⟨hd, rfl⟩ := hd
  intro H locs arr hP hD hS hl'
  obtain ⟨C, T, N, h1, h2, h3, h4, h5⟩ := hf
  exact va_get h.1 h.2.1 h.2.2.2.2.1 h5 h.2.2.2.1 h.2.2.2.2.2.1 hP p0 hc h1 j h2 (h.2.2.2.2.1 _ h4) (fun _ h9 => by rw [h3] at h9; exact h9) hv hd (kk H locs arr hP hD hS hl')
theorem z_get (h : zOk Γ own b mL d) (hd : zD b pc (.getfield idx) 3 q) (hf : zFl own idx ci j) (hc : zlay[c]? = some (.inl (ci, fs))) (hj : fs[j]? = some none) (kk : zVw Γ (zwl (zw Γ) σ) k n q ls (zi (σ c j) :: st)) : zVw Γ (zwl (zw Γ) σ) k n pc ls (zr (zw Γ) c :: st) := by
  have e := zfvs_at (zw Γ) σ c fs 0 j none hj
  rw [Nat.zero_add] at e
  exact z_getw h hd hf c (zwl_at (zw Γ) σ hc) e kk
theorem z_getr (h : zOk Γ own b mL d) {r : Nat} (hd : zD b pc (.getfield idx) 3 q) (hf : zFl own idx ci j) (hc : zlay[c]? = some (.inl (ci, fs))) (hj : fs[j]? = some (some (some r))) (kk : zVw Γ (zwl (zw Γ) σ) k n q ls (zr (zw Γ) r :: st)) : zVw Γ (zwl (zw Γ) σ) k n pc ls (zr (zw Γ) c :: st) := by
  have e := zfvs_at (zw Γ) σ c fs 0 j (some (some r)) hj
  exact z_getw h hd hf c (zwl_at (zw Γ) σ hc) e kk
theorem z_getd (h : zOk Γ own b mL d) {r : Nat} (hd : zD b pc (.getfield idx) 3 q) (hf : zFl own idx ci j) (hc : zlay[c]? = some (.inl (ci, fs))) (hj : fs[j]? = some (some none)) (hr : σ c j = r) (kk : zVw Γ (zwl (zw Γ) σ) k n q ls (zr (zw Γ) r :: st)) : zVw Γ (zwl (zw Γ) σ) k n pc ls (zr (zw Γ) c :: st) := by
  have e := zfvs_at (zw Γ) σ c fs 0 j (some none) hj
  rw [Nat.zero_add] at e
  have e2 : zfv (zw Γ) σ c j (some none) = zr (zw Γ) r := by show zr (zw Γ) (σ c j).toNat = _; rw [hr]; rfl
  rw [e2] at e
  exact z_getw h hd hf c (zwl_at (zw Γ) σ hc) e kk
theorem z_putw (h : zOk Γ own b mL d) {ws : va_W} {a : Nat} {vs : List Value} {v : Value} {ft : FieldType} (hd : zD b pc (.putfield idx) 3 q) (hf : zFl own idx ci j) (hp : zFp ci j ft) (p0 : Nat) (hc : ws[p0]? = some (a, .inr (ci, vs))) (hn : narrow ft v = v) (hfit : fits ft v = true) (hl : j < vs.length) (kk : zVw Γ (ws.set p0 (a, .inr (ci, vs.set j v))) k n q ls st) : zVw Γ ws k n pc ls (v :: .ref a :: st) := by
  obtain ⟨hd, rfl⟩ := hd
  intro H locs arr hP hD hS hl'
  obtain ⟨C, T, N, h1, h2, h3, h4, h5⟩ := hf
  obtain ⟨C', T', N', ty, g1, g2, g3, g4, g5⟩ := hp
  cases h1.symm.trans g1
  exact va_put h.1 h.2.1 h.2.2.2.2.1 h5 ty g3 g4 h.2.2.2.1 h.2.2.2.2.2.1 hP hD hS p0 hc h1 j h2 (h.2.2.2.2.1 _ h4) (fun _ h9 => by rw [h3] at h9; exact h9) g2 g5 hn hfit hl hd (fun H1 locs1 hP1 hD1 hS1 => kk H1 locs1 arr hP1 hD1 hS1 hl')
theorem z_put (h : zOk Γ own b mL d) (hd : zD b pc (.putfield idx) 3 q) (hf : zFl own idx ci j) (hp : zFp ci j .int) (hc : zlay[c]? = some (.inl (ci, fs))) (hj : fs[j]? = some none) (kk : zVw Γ (zwl (zw Γ) (zup σ c j x)) k n q ls st) : zVw Γ (zwl (zw Γ) σ) k n pc ls (zi x :: zr (zw Γ) c :: st) := by
  refine z_putw h hd hf hp c (zwl_at (zw Γ) σ hc) rfl rfl (by rw [zfvs_len]; exact (List.getElem?_eq_some_iff.mp hj).1) ?_
  have e1 := zup_fvs (zw Γ) σ c x none (zi x) fs 0 j hj (by show zi _ = zi x; rw [Nat.zero_add, zup_eq])
  rw [Nat.zero_add] at e1
  have e2 := zwl_set (zw Γ) σ (zup σ c j x) hc zup_c
  rw [← e2] at kk
  show zVw Γ ((zwl (zw Γ) σ).set c ((zw Γ).2.2 c, .inr (ci, (zfvs (zw Γ) σ c 0 fs).set j (zi x)))) k n q ls st
  rw [← e1]
  exact kk
theorem z_putd (h : zOk Γ own b mL d) {r : Nat} {ft : FieldType} (hd : zD b pc (.putfield idx) 3 q) (hf : zFl own idx ci j) (hp : zFp ci j ft) (hc : zlay[c]? = some (.inl (ci, fs))) (hj : fs[j]? = some (some none)) (hn : ∀ a, narrow ft (.ref a) = .ref a) (hfit : ∀ a, fits ft (.ref a) = true) (kk : zVw Γ (zwl (zw Γ) (zup σ c j r)) k n q ls st) : zVw Γ (zwl (zw Γ) σ) k n pc ls (zr (zw Γ) r :: zr (zw Γ) c :: st) := by
  refine z_putw h hd hf hp c (zwl_at (zw Γ) σ hc) (hn _) (hfit _) (by rw [zfvs_len]; exact (List.getElem?_eq_some_iff.mp hj).1) ?_
  have e1 := zup_fvs (zw Γ) σ c r (some none) (zr (zw Γ) r) fs 0 j hj (by show zr _ _ = _; rw [Nat.zero_add, zup_eq]; rfl)
  rw [Nat.zero_add] at e1
  have e2 := zwl_set (zw Γ) σ (zup σ c j r) hc zup_c
  rw [← e2] at kk
  show zVw Γ ((zwl (zw Γ) σ).set c ((zw Γ).2.2 c, .inr (ci, (zfvs (zw Γ) σ c 0 fs).set j (zr (zw Γ) r)))) k n q ls st
  rw [← e1]
  exact kk
theorem z_in {i : Int} {N : Nat} (hi : 0 ≤ i ∧ i < N) (hN : N < 2147483648) : vp_in (Int32.ofInt i) N ∧ (Int32.ofInt i).toNatClampNeg = i.toNat := by
  have e := z32 (a := i) (by omega)
  refine ⟨vp_in_iff.mpr (by rw [e]; exact hi), ?_⟩
  show (Int32.ofInt i).toInt.toNat = i.toNat
  rw [e]
theorem z_alen (h : zOk Γ own b mL d) {ty N : Nat} (hd : zD b pc .arraylength 1 q) (hc : zlay[c]? = some (.inr (.inl (ty, N)))) (ht : ty < 4) (kk : zVw Γ (zwl (zw Γ) σ) k n q ls (zi N :: st)) : zVw Γ (zwl (zw Γ) σ) k n pc ls (zr (zw Γ) c :: st) := by
  obtain ⟨hd, rfl⟩ := hd
  intro H locs arr hP hD hS hl'
  have ha := zwl_at (zw Γ) σ hc
  have hv : Int32.ofNat N = Int32.ofInt N := by rw [← Int32.ofInt_eq_ofNat]
  rcases (show ty = 0 ∨ ty = 1 ∨ ty = 2 ∨ ty = 3 by omega) with rfl | rfl | rfl | rfl
  · exact va_alen h.1 h.2.1 h.2.2.2.2.2.1 hP c 0 ha rfl hv hd (kk H locs arr hP hD hS hl')
  · exact va_alen h.1 h.2.1 h.2.2.2.2.2.1 hP c 1 ha rfl hv hd (kk H locs arr hP hD hS hl')
  · exact va_alen h.1 h.2.1 h.2.2.2.2.2.1 hP c 2 ha rfl hv hd (kk H locs arr hP hD hS hl')
  · exact va_alen h.1 h.2.1 h.2.2.2.2.2.1 hP c 3 ha rfl hv hd (kk H locs arr hP hD hS hl')
theorem z_iald (h : zOk Γ own b mL d) {N : Nat} (hd : zD b pc .iaload 1 q) (hc : zlay[c]? = some (.inr (.inl (0, N)))) (hN : N < 2147483648) (hi : 0 ≤ x ∧ x < N) (kk : zVw Γ (zwl (zw Γ) σ) k n q ls (zi (σ c x) :: st)) : zVw Γ (zwl (zw Γ) σ) k n pc ls (zi x :: zr (zw Γ) c :: st) := by
  obtain ⟨hd, rfl⟩ := hd
  intro H locs arr hP hD hS hl'
  obtain ⟨h1, h2⟩ := z_in hi hN
  refine va_iald h.1 h.2.1 h.2.2.2.2.2.1 hP c 0 (zwl_at (zw Γ) σ hc) rfl h1 hd ?_
  rw [h2, Int.toNat_of_nonneg hi.1]
  exact kk H locs arr hP hD hS hl'
theorem z_bald (h : zOk Γ own b mL d) {N : Nat} (hd : zD b pc .baload 1 q) (hc : zlay[c]? = some (.inr (.inl (1, N)))) (hN : N < 2147483648) (hi : 0 ≤ x ∧ x < N) (kk : zVw Γ (zwl (zw Γ) σ) k n q ls (zi (σ c x) :: st)) : zVw Γ (zwl (zw Γ) σ) k n pc ls (zi x :: zr (zw Γ) c :: st) := by
  obtain ⟨hd, rfl⟩ := hd
  intro H locs arr hP hD hS hl'
  obtain ⟨h1, h2⟩ := z_in hi hN
  refine va_bald h.1 h.2.1 h.2.2.2.2.2.1 hP c 1 (zwl_at (zw Γ) σ hc) rfl h1 hd ?_
  rw [h2, Int.toNat_of_nonneg hi.1]
  exact kk H locs arr hP hD hS hl'
theorem z_zald (h : zOk Γ own b mL d) {N : Nat} (hd : zD b pc .baload 1 q) (hc : zlay[c]? = some (.inr (.inl (3, N)))) (hN : N < 2147483648) (hi : 0 ≤ x ∧ x < N) (kk : zVw Γ (zwl (zw Γ) σ) k n q ls (zi (σ c x) :: st)) : zVw Γ (zwl (zw Γ) σ) k n pc ls (zi x :: zr (zw Γ) c :: st) := by
  obtain ⟨hd, rfl⟩ := hd
  intro H locs arr hP hD hS hl'
  obtain ⟨h1, h2⟩ := z_in hi hN
  refine va_zald h.1 h.2.1 h.2.2.2.2.2.1 hP c 3 (zwl_at (zw Γ) σ hc) rfl h1 hd ?_
  rw [h2, Int.toNat_of_nonneg hi.1]
  exact kk H locs arr hP hD hS hl'
theorem z_lald (h : zOk Γ own b mL d) {N : Nat} (hd : zD b pc .laload 1 q) (hc : zlay[c]? = some (.inr (.inl (2, N)))) (hN : N < 2147483648) (hi : 0 ≤ x ∧ x < N) (kk : zVw Γ (zwl (zw Γ) σ) k n q ls (zl (σ c x) :: st)) : zVw Γ (zwl (zw Γ) σ) k n pc ls (zi x :: zr (zw Γ) c :: st) := by
  obtain ⟨hd, rfl⟩ := hd
  intro H locs arr hP hD hS hl'
  obtain ⟨h1, h2⟩ := z_in hi hN
  refine va_lald h.1 h.2.1 h.2.2.2.2.2.1 hP c 2 (zwl_at (zw Γ) σ hc) rfl h1 hd ?_
  rw [h2, Int.toNat_of_nonneg hi.1]
  exact kk H locs arr hP hD hS hl'
theorem z_aald (h : zOk Γ own b mL d) {ids : List Nat} {r : Nat} (hd : zD b pc .aaload 1 q) (hc : zlay[c]? = some (.inr (.inr ids))) (hN : ids.length < 2147483648) (hi : 0 ≤ x) (hr : ids[x.toNat]? = some r) (kk : zVw Γ (zwl (zw Γ) σ) k n q ls (zr (zw Γ) r :: st)) : zVw Γ (zwl (zw Γ) σ) k n pc ls (zi x :: zr (zw Γ) c :: st) := by
  obtain ⟨hd, rfl⟩ := hd
  intro H locs arr hP hD hS hl'
  have hlt := (List.getElem?_eq_some_iff.mp hr).1
  obtain ⟨h1, h2⟩ := z_in (i := x) (N := ids.length) (by omega) hN
  refine va_aldq h.1 h.2.1 h.2.2.2.2.2.1 hP c 4 (C := RX0) (zwl_at (zw Γ) σ hc) rfl h1 hd ?_
  rw [h2, hr]
  exact kk H locs arr hP hD hS hl'
theorem z_upd (w : zW) (σ : zM) (c : Nat) (x v : Int) (hx : 0 ≤ x) : (fun j : Nat => Int32.ofInt (zup σ c x v c j)) = upd (fun j : Nat => Int32.ofInt (σ c j)) x.toNat (Int32.ofInt v) := by
  funext j
  by_cases hj : j = x.toNat
  · subst hj
    rw [zup_eqi (Int.toNat_of_nonneg hx)]
    simp [upd]
  · rw [zup_nei (by omega)]
    simp [upd, hj]
theorem z_iast (h : zOk Γ own b mL d) {N : Nat} (hd : zD b pc .iastore 1 q) (hc : zlay[c]? = some (.inr (.inl (0, N)))) (hN : N < 2147483648) (hi : 0 ≤ x ∧ x < N) (kk : zVw Γ (zwl (zw Γ) (zup σ c x y)) k n q ls st) : zVw Γ (zwl (zw Γ) σ) k n pc ls (zi y :: zi x :: zr (zw Γ) c :: st) := by
  obtain ⟨hd, rfl⟩ := hd
  intro H locs arr hP hD hS hl'
  obtain ⟨h1, h2⟩ := z_in hi hN
  have e : (zwl (zw Γ) σ).set c ((zw Γ).2.2 c, .inl ((zw Γ).2.1 0, N, .inl (upd (fun j : Nat => Int32.ofInt (σ c j)) (Int32.ofInt x).toNatClampNeg (Int32.ofInt y)))) = zwl (zw Γ) (zup σ c x y) := by
    rw [h2, ← z_upd (zw Γ) σ c x y hi.1]
    exact zwl_set (zw Γ) σ (zup σ c x y) hc zup_c
  refine va_iast h.1 h.2.1 h.2.2.2.2.2.1 hP hD hS c 0 (zwl_at (zw Γ) σ hc) rfl h1 hd (fun H1 locs1 hP1 hD1 hS1 => ?_)
  rw [e] at hP1 hD1
  exact kk H1 locs1 arr hP1 hD1 hS1 hl'
theorem z_last (h : zOk Γ own b mL d) {N : Nat} (hd : zD b pc .lastore 1 q) (hc : zlay[c]? = some (.inr (.inl (2, N)))) (hN : N < 2147483648) (hi : 0 ≤ x ∧ x < N) (kk : zVw Γ (zwl (zw Γ) (zup σ c x y)) k n q ls st) : zVw Γ (zwl (zw Γ) σ) k n pc ls (zl y :: zi x :: zr (zw Γ) c :: st) := by
  obtain ⟨hd, rfl⟩ := hd
  intro H locs arr hP hD hS hl'
  obtain ⟨h1, h2⟩ := z_in hi hN
  have e : (zwl (zw Γ) σ).set c ((zw Γ).2.2 c, .inl ((zw Γ).2.1 2, N, .inr (.inl (vp_updL (fun j : Nat => Int64.ofInt (σ c j)) (Int32.ofInt x).toNatClampNeg (Int64.ofInt y))))) = zwl (zw Γ) (zup σ c x y) := by
    have e1 : (fun j : Nat => Int64.ofInt (zup σ c x y c j)) = vp_updL (fun j : Nat => Int64.ofInt (σ c j)) x.toNat (Int64.ofInt y) := by
      funext j
      by_cases hj : j = x.toNat
      · subst hj
        rw [zup_eqi (Int.toNat_of_nonneg hi.1)]
        simp [vp_updL]
      · rw [zup_nei (by omega)]
        simp [vp_updL, hj]
    rw [h2, ← e1]
    exact zwl_set (zw Γ) σ (zup σ c x y) hc zup_c
  refine va_last h.1 h.2.1 h.2.2.2.2.2.1 hP hD hS c 2 (zwl_at (zw Γ) σ hc) rfl h1 hd (fun H1 locs1 hP1 hD1 hS1 => ?_)
  rw [e] at hP1 hD1
  exact kk H1 locs1 arr hP1 hD1 hS1 hl'
theorem z_bast (h : zOk Γ own b mL d) {N : Nat} (hd : zD b pc .bastore 1 q) (hc : zlay[c]? = some (.inr (.inl (1, N)))) (hN : N < 2147483648) (hi : 0 ≤ x ∧ x < N) (hy : -128 ≤ y ∧ y < 128) (kk : zVw Γ (zwl (zw Γ) (zup σ c x y)) k n q ls st) : zVw Γ (zwl (zw Γ) σ) k n pc ls (zi y :: zi x :: zr (zw Γ) c :: st) := by
  obtain ⟨hd, rfl⟩ := hd
  intro H locs arr hP hD hS hl'
  obtain ⟨h1, h2⟩ := z_in hi hN
  have hb : vp_nar .byte (Int32.ofInt y) = Int32.ofInt y := by
    obtain ⟨z, rfl⟩ : ∃ z : Nat, y = (z : Int) - 128 := ⟨(y + 128).toNat, by omega⟩
    have : ∀ z : Fin 256, vp_nar .byte (Int32.ofInt (((z.val : Nat) : Int) - 128)) = Int32.ofInt (((z.val : Nat) : Int) - 128) := by decide +kernel
    exact this ⟨z, by omega⟩
  have e : (zwl (zw Γ) σ).set c ((zw Γ).2.2 c, .inl ((zw Γ).2.1 1, N, .inl (upd (fun j : Nat => Int32.ofInt (σ c j)) (Int32.ofInt x).toNatClampNeg (vp_nar .byte (Int32.ofInt y))))) = zwl (zw Γ) (zup σ c x y) := by
    rw [h2, hb, ← z_upd (zw Γ) σ c x y hi.1]
    exact zwl_set (zw Γ) σ (zup σ c x y) hc zup_c
  refine va_bast h.1 h.2.1 h.2.2.2.2.2.1 hP hD hS c 1 (zwl_at (zw Γ) σ hc) rfl h1 hd (fun H1 locs1 hP1 hD1 hS1 => ?_)
  rw [e] at hP1 hD1
  exact kk H1 locs1 arr hP1 hD1 hS1 hl'
theorem z_zast (h : zOk Γ own b mL d) {N : Nat} (hd : zD b pc .bastore 1 q) (hc : zlay[c]? = some (.inr (.inl (3, N)))) (hN : N < 2147483648) (hi : 0 ≤ x ∧ x < N) (hy : y = 0 ∨ y = 1) (kk : zVw Γ (zwl (zw Γ) (zup σ c x y)) k n q ls st) : zVw Γ (zwl (zw Γ) σ) k n pc ls (zi y :: zi x :: zr (zw Γ) c :: st) := by
  obtain ⟨hd, rfl⟩ := hd
  intro H locs arr hP hD hS hl'
  obtain ⟨h1, h2⟩ := z_in hi hN
  have hb : vp_nar .boolean (Int32.ofInt y) = Int32.ofInt y := by
    rcases hy with rfl | rfl <;> decide +kernel
  have e : (zwl (zw Γ) σ).set c ((zw Γ).2.2 c, .inl ((zw Γ).2.1 3, N, .inl (upd (fun j : Nat => Int32.ofInt (σ c j)) (Int32.ofInt x).toNatClampNeg (vp_nar .boolean (Int32.ofInt y))))) = zwl (zw Γ) (zup σ c x y) := by
    rw [h2, hb, ← z_upd (zw Γ) σ c x y hi.1]
    exact zwl_set (zw Γ) σ (zup σ c x y) hc zup_c
  refine va_zast h.1 h.2.1 h.2.2.2.2.2.1 hP hD hS c 3 (zwl_at (zw Γ) σ hc) rfl h1 hd (fun H1 locs1 hP1 hD1 hS1 => ?_)
  rw [e] at hP1 hD1
  exact kk H1 locs1 arr hP1 hD1 hS1 hl'
theorem z_min (h : zOk Γ own b mL d) {ws : va_W} (hd : zD b pc (.invokestatic idx) 3 q) (hl : Cond.methodLink own idx Lib.Math.min.name ∈ zAL) (hs : Cond.static Lib.Math.min.name ∈ zAL) (hi : Cond.initialized "java/lang/Math" ∈ zAL) (hc : Cond.code Lib.Math.min.name Lib.Math.min.code 2 (some .int) ∈ zAL) (hx : -2147483648 ≤ x ∧ x ≤ 2147483647) (hy : -2147483648 ≤ y ∧ y ≤ 2147483647) (hdd : 1 ≤ d) (hst : (st.map fun v => v.category).sum ≤ 20) (hk : k ≤ (zRm Γ).cells) (hn : n ≤ (zRm Γ).slots) (kk : zVw Γ ws k n q ls (zi (min x y) :: st)) : zVw Γ ws k n pc ls (zi y :: zi x :: st) := by
  obtain ⟨hd, rfl⟩ := hd
  intro H locs arr hP hD hS hl'
  have h8 := h.2.2.2.2.2.2.2.1
  refine va_mmin h.1 h.2.1 hl'.1.symm h.2.2.2.1 (h.2.2.2.2.1 _ hl) (h.2.2.2.2.1 _ hs) (h.2.2.2.2.1 _ hi) (h.2.2.2.2.1 _ hc) (by omega) (by omega) hk hn hd ?_
  have e : (if Int32.ofInt y < Int32.ofInt x then Int32.ofInt y else Int32.ofInt x) = Int32.ofInt (min x y) := by
    by_cases hxy : y < x
    · rw [if_pos ((z32_lt hy hx).mpr hxy), Int.min_eq_right (by omega)]
    · rw [if_neg (fun z => hxy ((z32_lt hy hx).mp z)), Int.min_eq_left (by omega)]
  rw [e]
  exact kk H locs arr hP hD hS hl'
end ZH
