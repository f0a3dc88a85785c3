def zlay : List (((Nat × List (Option (Option Nat))) ⊕ ((Nat × Nat) ⊕ List Nat))) := [
  .inl (7, [some (some 1), some (some 4), some (some 5), some (some 23), some (some 27), some (some 30), none, some none, some none, none]),
  .inl (6, [some (some 2), some (some 3), none, none]),
  .inr (.inl (1, 300)),
  .inr (.inl (0, 3)),
  .inl (5, [some (some 5), some (some 21), some (some 22), none, none, none, none, none]),
  .inl (1, [some (some 6), some (some 7), some (some 8), some (some 9), some (some 10), some (some 11), some none, none, none, none, none, none, none, none, none, none]),
  .inr (.inl (0, 10)),
  .inr (.inl (0, 10)),
  .inr (.inl (3, 10)),
  .inr (.inl (0, 10)),
  .inr (.inl (0, 2)),
  .inr (.inl (0, 2)),
  .inl (4, [some (some 13), some (some 14), some (some 15), some (some 16), some (some 17), none, none, none, none, none, none]),
  .inr (.inl (0, 10)),
  .inr (.inl (0, 10)),
  .inr (.inl (0, 10)),
  .inr (.inl (0, 10)),
  .inl (0, [some (some 18), some (some 19), some (some 20), none]),
  .inr (.inl (0, 8)),
  .inr (.inl (0, 8)),
  .inr (.inl (0, 100)),
  .inr (.inl (0, 144)),
  .inr (.inl (0, 144)),
  .inl (3, [some (some 24), some (some 25), some (some 26)]),
  .inr (.inl (2, 9)),
  .inr (.inl (2, 9)),
  .inr (.inl (2, 9)),
  .inl (2, [some (some 28), some (some 29), none, none, none, none]),
  .inr (.inl (0, 9)),
  .inr (.inl (0, 9)),
  .inr (.inr [31, 35]),
  .inl (0, [some (some 32), some (some 33), some (some 34), none]),
  .inr (.inl (0, 8)),
  .inr (.inl (0, 8)),
  .inr (.inl (0, 100)),
  .inl (0, [some (some 36), some (some 37), some (some 38), none]),
  .inr (.inl (0, 8)),
  .inr (.inl (0, 8)),
  .inr (.inl (0, 100)),
  .inl (4, [some (some 40), some (some 41), some (some 42), some (some 43), some (some 44), none, none, none, none, none, none]),
  .inr (.inl (0, 10)),
  .inr (.inl (0, 10)),
  .inr (.inl (0, 10)),
  .inr (.inl (0, 10)),
  .inl (0, [some (some 45), some (some 46), some (some 47), none]),
  .inr (.inl (0, 8)),
  .inr (.inl (0, 8)),
  .inr (.inl (0, 100)),
  .inl (4, [some (some 49), some (some 50), some (some 51), some (some 52), some (some 53), none, none, none, none, none, none]),
  .inr (.inl (0, 10)),
  .inr (.inl (0, 10)),
  .inr (.inl (0, 10)),
  .inr (.inl (0, 10)),
  .inl (0, [some (some 54), some (some 55), some (some 56), none]),
  .inr (.inl (0, 8)),
  .inr (.inl (0, 8)),
  .inr (.inl (0, 100)),
  .inl (8, [none, some (some 58), some (some 59), some (some 60), some (some 61), some (some 62), some (some 63), some (some 64), some (some 65), some (some 66), some (some 67), some (some 68), some (some 69), some (some 70), none, none, some (some 71), some (some 72), none, some (some 73), none, none, none, none, none, none, none, some (some 74), none, some (some 75), some (some 76), none, some (some 77), some (some 78), some (some 79)]),
  .inr (.inl (0, 300)),
  .inr (.inl (0, 2)),
  .inr (.inl (0, 20)),
  .inr (.inl (0, 20)),
  .inr (.inl (0, 20)),
  .inr (.inl (0, 2)),
  .inr (.inl (0, 2)),
  .inr (.inl (0, 2)),
  .inr (.inl (0, 2)),
  .inr (.inl (0, 2)),
  .inr (.inl (0, 4)),
  .inr (.inl (0, 32)),
  .inr (.inl (0, 32)),
  .inr (.inl (0, 2)),
  .inr (.inl (0, 18)),
  .inr (.inl (0, 3)),
  .inr (.inl (0, 10)),
  .inr (.inl (0, 10)),
  .inr (.inl (0, 10)),
  .inr (.inl (0, 144)),
  .inr (.inl (0, 144)),
  .inr (.inl (2, 100))]
/-! ===== the pure machine: memory, world, states ===== -/
abbrev zM : Type := Nat → Int → Int
def zup (σ : zM) (c : Nat) (i v : Int) : zM := fun c' i' => if c' = c ∧ i' = i then v else σ c' i'
def zi (a : Int) : Value := .int (Int32.ofInt a)
def zl (a : Int) : Value := .long (Int64.ofInt a)
abbrev zW : Type := va_G × (Nat → ClassId) × (Nat → Nat)
def zr (w : zW) (c : Nat) : Value := .ref (w.2.2 c)
abbrev zF : Type := Option (Option Nat)
abbrev zL : Type := (Nat × List zF) ⊕ ((Nat × Nat) ⊕ List Nat)
def zfv (w : zW) (σ : zM) (c j : Nat) (f : zF) : Value := match f with
  | none => zi (σ c j)
  | some none => zr w (σ c j).toNat
  | some (some d) => zr w d
def zfvs (w : zW) (σ : zM) (c : Nat) : Nat → List zF → List Value
  | _, [] => []
  | j, f :: t => zfv w σ c j f :: zfvs w σ c (j + 1) t
def zce (w : zW) (σ : zM) (c : Nat) (e : zL) : va_E := match e with
  | .inl (ci, fs) => .inr (ci, zfvs w σ c 0 fs)
  | .inr (.inl (ty, n)) => if ty = 2 then .inl (w.2.1 2, n, .inr (.inl (fun j => Int64.ofInt (σ c j)))) else .inl (w.2.1 ty, n, .inl (fun j => Int32.ofInt (σ c j)))
  | .inr (.inr ids) => .inl (w.2.1 4, ids.length, .inr (.inr (.inr (.inr (fun j => (ids[j]?).map w.2.2)))))
def zws (w : zW) (σ : zM) : Nat → List zL → va_W
  | _, [] => []
  | c, e :: t => (w.2.2 c, zce w σ c e) :: zws w σ (c + 1) t
def zwl (w : zW) (σ : zM) : va_W := zws w σ 0 zlay
theorem zfvs_at (w : zW) (σ : zM) (c : Nat) : ∀ (fs : List zF) (j k : Nat) (f : zF), fs[k]? = some f → (zfvs w σ c j fs)[k]? = some (zfv w σ c (j + k) f)
  | [], j, k, f, h => by simp at h
  | g :: t, j, 0, f, h => by simp at h; subst h; rfl
  | g :: t, j, k + 1, f, h => by
    simp only [List.getElem?_cons_succ] at h
    have := zfvs_at w σ c t (j + 1) k f h
    simp only [zfvs, List.getElem?_cons_succ]
    rw [this, show j + 1 + k = j + (k + 1) by omega]
theorem zfvs_len (w : zW) (σ : zM) (c : Nat) : ∀ (fs : List zF) (j : Nat), (zfvs w σ c j fs).length = fs.length
  | [], _ => rfl
  | _ :: t, j => by simp [zfvs, zfvs_len w σ c t (j + 1)]
theorem zfvs_congr (w : zW) (σ τ : zM) (c : Nat) (h : ∀ i, τ c i = σ c i) : ∀ (fs : List zF) (j : Nat), zfvs w τ c j fs = zfvs w σ c j fs
  | [], _ => rfl
  | f :: t, j => by
    simp only [zfvs, zfvs_congr w σ τ c h t (j + 1)]
    congr 1
    unfold zfv
    split <;> simp [h]
theorem zce_congr (w : zW) (σ τ : zM) (c : Nat) (e : zL) (h : ∀ i, τ c i = σ c i) : zce w τ c e = zce w σ c e := by
  unfold zce
  split
  · rw [zfvs_congr w σ τ c h]
  · simp [h]
  · rfl
theorem zws_at (w : zW) (σ : zM) : ∀ (L : List zL) (c0 c : Nat) (e : zL), L[c]? = some e → (zws w σ c0 L)[c]? = some (w.2.2 (c0 + c), zce w σ (c0 + c) e)
  | [], c0, c, e, h => by simp at h
  | g :: t, c0, 0, e, h => by simp at h; subst h; rfl
  | g :: t, c0, c + 1, e, h => by
    simp only [List.getElem?_cons_succ] at h
    have := zws_at w σ t (c0 + 1) c e h
    simp only [zws, List.getElem?_cons_succ]
    rw [this]; simp [Nat.add_assoc, Nat.add_comm 1 c]
theorem zws_same (w : zW) (σ τ : zM) : ∀ (L : List zL) (c0 : Nat), (∀ c, c0 ≤ c → ∀ i, τ c i = σ c i) → zws w τ c0 L = zws w σ c0 L
  | [], _, _ => rfl
  | e :: t, c0, h => by
    simp only [zws, zws_same w σ τ t (c0 + 1) (fun c hc => h c (by omega)), zce_congr w σ τ c0 e (h c0 (Nat.le_refl _))]
theorem zws_set (w : zW) (σ τ : zM) : ∀ (L : List zL) (c0 c : Nat) (e : zL), L[c]? = some e → (∀ c', c' ≠ c0 + c → ∀ i, τ c' i = σ c' i) → zws w τ c0 L = (zws w σ c0 L).set c (w.2.2 (c0 + c), zce w τ (c0 + c) e)
  | [], c0, c, e, h, _ => by simp at h
  | g :: t, c0, 0, e, h, hs => by
    simp at h; subst h
    simp only [zws, List.set_cons_zero, Nat.add_zero]
    rw [zws_same w σ τ t (c0 + 1) (fun c hc => hs c (by omega))]
  | g :: t, c0, c + 1, e, h, hs => by
    simp only [List.getElem?_cons_succ] at h
    simp only [zws, List.set_cons_succ]
    rw [zws_set w σ τ t (c0 + 1) c e h (fun c' hc => hs c' (by omega)), zce_congr w σ τ c0 g (hs c0 (by omega)), show c0 + 1 + c = c0 + (c + 1) by omega]
theorem zwl_at (w : zW) (σ : zM) {c : Nat} {e : zL} (h : zlay[c]? = some e) : (zwl w σ)[c]? = some (w.2.2 c, zce w σ c e) := by
  have := zws_at w σ zlay 0 c e h
  rwa [Nat.zero_add] at this
theorem zwl_set (w : zW) (σ τ : zM) {c : Nat} {e : zL} (h : zlay[c]? = some e) (hs : ∀ c', c' ≠ c → ∀ i, τ c' i = σ c' i) : (zwl w σ).set c (w.2.2 c, zce w τ c e) = zwl w τ := by
  have := zws_set w σ τ zlay 0 c e h (fun c' hc => hs c' (by omega))
  rw [Nat.zero_add] at this
  exact this.symm
theorem zup_c {σ : zM} {c : Nat} {i v : Int} : ∀ c', c' ≠ c → ∀ j, zup σ c i v c' j = σ c' j := fun c' h j => by simp [zup, h]
theorem zup_eq (σ : zM) (c : Nat) (i v : Int) : zup σ c i v c i = v := by simp [zup]
theorem zup_ne {σ : zM} {c c' : Nat} {i v j : Int} (h : c' ≠ c) : zup σ c i v c' j = σ c' j := by simp [zup, h]
theorem zup_nei {σ : zM} {c c' : Nat} {i v j : Int} (h : j ≠ i) : zup σ c i v c' j = σ c' j := by simp [zup, h]
theorem zup_eqi {σ : zM} {c : Nat} {i v j : Int} (h : j = i) : zup σ c i v c j = v := by simp [zup, h]
/-! numbers -/
theorem z32 {a : Int} (h : -2147483648 ≤ a ∧ a ≤ 2147483647) : (Int32.ofInt a).toInt = a := Int32.toInt_ofInt_of_le (by omega) (by omega)
theorem z64 {a : Int} (h : -9223372036854775808 ≤ a ∧ a ≤ 9223372036854775807) : (Int64.ofInt a).toInt = a := Int64.toInt_ofInt_of_le (by omega) (by omega)
theorem z32_lt {a b : Int} (ha : -2147483648 ≤ a ∧ a ≤ 2147483647) (hb : -2147483648 ≤ b ∧ b ≤ 2147483647) : Int32.ofInt a < Int32.ofInt b ↔ a < b := by
  rw [Int32.lt_iff_toInt_lt, z32 ha, z32 hb]
theorem z32_le {a b : Int} (ha : -2147483648 ≤ a ∧ a ≤ 2147483647) (hb : -2147483648 ≤ b ∧ b ≤ 2147483647) : Int32.ofInt a ≤ Int32.ofInt b ↔ a ≤ b := by
  rw [Int32.le_iff_toInt_le, z32 ha, z32 hb]
theorem z32_eq {a b : Int} (ha : -2147483648 ≤ a ∧ a ≤ 2147483647) (hb : -2147483648 ≤ b ∧ b ≤ 2147483647) : Int32.ofInt a = Int32.ofInt b ↔ a = b := by
  rw [← Int32.toInt_inj, z32 ha, z32 hb]
theorem z64_lt {a b : Int} (ha : -9223372036854775808 ≤ a ∧ a ≤ 9223372036854775807) (hb : -9223372036854775808 ≤ b ∧ b ≤ 9223372036854775807) : Int64.ofInt a < Int64.ofInt b ↔ a < b := by
  rw [Int64.lt_iff_toInt_lt, z64 ha, z64 hb]
theorem z64_eq {a b : Int} (ha : -9223372036854775808 ≤ a ∧ a ≤ 9223372036854775807) (hb : -9223372036854775808 ≤ b ∧ b ≤ 9223372036854775807) : Int64.ofInt a = Int64.ofInt b ↔ a = b := by
  rw [← Int64.toInt_inj, z64 ha, z64 hb]
theorem z32_0 : (0 : Int32) = Int32.ofInt 0 := by decide
theorem z32_all (x : Int32) : Int32.ofInt x.toInt = x := Int32.ofInt_toInt x
theorem z32_rg (x : Int32) : -2147483648 ≤ x.toInt ∧ x.toInt ≤ 2147483647 := by
  have h1 := Int32.le_toInt x
  have h2 := Int32.toInt_lt x
  omega
theorem z64_rg (x : Int64) : -9223372036854775808 ≤ x.toInt ∧ x.toInt ≤ 9223372036854775807 := by
  have h1 := Int64.le_toInt x
  have h2 := Int64.toInt_lt x
  omega
/-- the bit operations on ints, as numbers -/
def zand (a b : Int) : Int := (Int32.ofInt a &&& Int32.ofInt b).toInt
def zor (a b : Int) : Int := (Int32.ofInt a ||| Int32.ofInt b).toInt
def zxor (a b : Int) : Int := (Int32.ofInt a ^^^ Int32.ofInt b).toInt
def zshl (a b : Int) : Int := (Int32.ofInt a <<< (Int32.ofInt b &&& 31)).toInt
def zshr (a b : Int) : Int := (Int32.ofInt a >>> (Int32.ofInt b &&& 31)).toInt
def zushr (a b : Int) : Int := ((Int32.ofInt a).toUInt32 >>> ((Int32.ofInt b).toUInt32 &&& Int32.toUInt32 31)).toInt32.toInt
def zlushr (a b : Int) : Int := ((Int64.ofInt a).toUInt64 >>> ((Int32.ofInt b).toInt64.toUInt64 &&& Int64.toUInt64 63)).toInt64.toInt
def zlshl (a b : Int) : Int := (Int64.ofInt a <<< ((Int32.ofInt b).toInt64 &&& 63)).toInt
def zlshr (a b : Int) : Int := (Int64.ofInt a >>> ((Int32.ofInt b).toInt64 &&& 63)).toInt
def zland (a b : Int) : Int := (Int64.ofInt a &&& Int64.ofInt b).toInt
def zlor (a b : Int) : Int := (Int64.ofInt a ||| Int64.ofInt b).toInt
def zi2b (a : Int) : Int := (Int32.ofInt a).toInt8.toInt32.toInt
def zl2i (a : Int) : Int := (Int64.ofInt a).toInt32.toInt
def zcmp (a b : Int) : Int := if b < a then 1 else if a = b then 0 else -1
/-! locals -/
def zas : Nat → List (Option Value) → List (Nat × Value)
  | _, [] => []
  | i, none :: t => zas (i + 1) t
  | i, some v :: t => (i, v) :: zas (i + 1) t
def zlok (nL : Nat) (arr : Array Slot) (ls : List (Option Value)) : Prop := lv_has arr nL (zas 0 ls)
def zg : List (Option Value) → Nat → Option Value
  | [], _ => none
  | x :: _, 0 => x
  | _ :: t, i + 1 => zg t i
theorem zas_mem : ∀ (ls : List (Option Value)) (i0 : Nat) (q : Nat × Value), q ∈ zas i0 ls ↔ i0 ≤ q.1 ∧ zg ls (q.1 - i0) = some q.2
  | [], i0, q => by simp [zas, zg]
  | none :: t, i0, q => by
    rw [zas, zas_mem t (i0 + 1) q]
    by_cases h : q.1 ≤ i0
    · by_cases h2 : q.1 = i0
      · rw [h2]; simp only [Nat.sub_self, zg]; constructor
        · intro h3; omega
        · rintro ⟨-, h3⟩; cases h3
      · constructor <;> intro h3 <;> omega
    · have : q.1 - i0 = (q.1 - (i0 + 1)) + 1 := by omega
      rw [this, zg]
      constructor <;> rintro ⟨h1, h2⟩ <;> exact ⟨by omega, h2⟩
  | some v :: t, i0, q => by
    rw [zas, List.mem_cons, zas_mem t (i0 + 1) q]
    by_cases h : q.1 ≤ i0
    · by_cases h2 : q.1 = i0
      · obtain ⟨q1, q2⟩ := q
        simp only at h2
        subst h2
        simp only [Prod.mk.injEq, true_and, Nat.sub_self, zg, Option.some.injEq]
        constructor
        · rintro (h3 | h3)
          · exact ⟨Nat.le_refl _, h3.symm⟩
          · omega
        · rintro ⟨-, h3⟩; exact Or.inl h3.symm
      · constructor
        · rintro (h3 | h3)
          · rw [h3] at h2; exact absurd rfl h2
          · omega
        · intro h3; omega
    · have e : q.1 - i0 = (q.1 - (i0 + 1)) + 1 := by omega
      rw [e, zg]
      constructor
      · rintro (h3 | h3)
        · rw [h3] at h; simp at h
        · exact ⟨by omega, h3.2⟩
      · rintro ⟨h1, h2⟩; exact Or.inr ⟨by omega, h2⟩
theorem zlok_at {nL : Nat} {arr : Array Slot} {ls : List (Option Value)} (h : zlok nL arr ls) {i : Nat} {v : Value} (hg : zg ls i = some v) : arr[i]? = some (.val v) :=
  h.2.2 (i, v) ((zas_mem ls 0 (i, v)).mpr ⟨Nat.zero_le _, hg⟩)
theorem zlok_mono {nL : Nat} {arr : Array Slot} {l : List (Nat × Value)} {ls : List (Option Value)} (h : lv_has arr nL l) (hs : ∀ i v, zg ls i = some v → (i, v) ∈ l) : zlok nL arr ls :=
  ⟨h.1, h.2.1, fun q hq => h.2.2 q (hs q.1 q.2 ((zas_mem ls 0 q).mp hq).2)⟩
/-- a list of locals behind a store: place i holds v, a long before it is gone -/
def zst1 (ls : List (Option Value)) (i : Nat) (v : Value) (ls' : List (Option Value)) : Prop := ∀ j u, zg ls' j = some u → (j = i ∧ u = v) ∨ (j ≠ i ∧ zg ls j = some u ∧ ¬ (j + 1 = i ∧ u.category = 2))
def zst2 (ls : List (Option Value)) (i : Nat) (v : Value) (ls' : List (Option Value)) : Prop := ∀ j u, zg ls' j = some u → (j = i ∧ u = v) ∨ (j ≠ i ∧ j ≠ i + 1 ∧ zg ls j = some u ∧ ¬ (j + 1 = i ∧ u.category = 2))
theorem zlok_st1 {nL i : Nat} {arr : Array Slot} {ls ls' : List (Option Value)} {v : Value} (h : lv_has arr nL ((i, v) :: (zas 0 ls).filter (fun q => !(q.1 == i) && !(q.1 + 1 == i && q.2.category == 2)))) (hs : zst1 ls i v ls') : zlok nL arr ls' := by
  refine zlok_mono h fun j u hu => ?_
  rcases hs j u hu with ⟨rfl, rfl⟩ | ⟨h1, h2, h3⟩
  · exact List.mem_cons_self
  · refine List.mem_cons_of_mem _ (List.mem_filter.mpr ⟨(zas_mem ls 0 (j, u)).mpr ⟨Nat.zero_le _, h2⟩, ?_⟩)
    simp only [Bool.and_eq_true, Bool.not_eq_true', beq_eq_false_iff_ne, ne_eq, Bool.and_eq_false_iff]
    refine ⟨h1, ?_⟩
    by_cases h4 : j + 1 = i
    · exact Or.inr (fun h5 => h3 ⟨h4, h5⟩)
    · exact Or.inl h4
theorem zlok_st2 {nL i : Nat} {arr : Array Slot} {ls ls' : List (Option Value)} {v : Value} (h : lv_has arr nL ((i, v) :: (zas 0 ls).filter (fun q => !(q.1 == i) && (!(q.1 == i + 1) && !(q.1 + 1 == i && q.2.category == 2))))) (hs : zst2 ls i v ls') : zlok nL arr ls' := by
  refine zlok_mono h fun j u hu => ?_
  rcases hs j u hu with ⟨rfl, rfl⟩ | ⟨h1, h1', h2, h3⟩
  · exact List.mem_cons_self
  · refine List.mem_cons_of_mem _ (List.mem_filter.mpr ⟨(zas_mem ls 0 (j, u)).mpr ⟨Nat.zero_le _, h2⟩, ?_⟩)
    simp only [Bool.and_eq_true, Bool.not_eq_true', beq_eq_false_iff_ne, ne_eq, Bool.and_eq_false_iff]
    refine ⟨h1, h1', ?_⟩
    by_cases h4 : j + 1 = i
    · exact Or.inr (fun h5 => h3 ⟨h4, h5⟩)
    · exact Or.inl h4
/-- no long stands there -/
def zc1 (o : Option Value) : Bool := match o with
  | some (.long _) => false
  | some (.double _) => false
  | _ => true
theorem zst1_0 {a0 : Option Value} {t : List (Option Value)} {v : Value} : zst1 (a0 :: t) 0 v (some v :: t) := by
  intro j u hu
  rcases j with _ | j
  · have hu : some v = some u := hu
    exact Or.inl ⟨by omega, (Option.some.inj hu).symm⟩
  · exact Or.inr ⟨by omega, hu, fun h => by omega⟩
theorem zst1_1 {a0 a1 : Option Value} {t : List (Option Value)} {v : Value} (hc : zc1 a0 = true) : zst1 (a0 :: a1 :: t) 1 v (a0 :: some v :: t) := by
  intro j u hu
  rcases j with _ | j
  · refine Or.inr ⟨by omega, hu, fun h => ?_⟩
    have hu : a0 = some u := hu
    subst hu
    cases u <;> simp_all [zc1, Value.category]
  rcases j with _ | j
  · have hu : some v = some u := hu
    exact Or.inl ⟨by omega, (Option.some.inj hu).symm⟩
  · exact Or.inr ⟨by omega, hu, fun h => by omega⟩
theorem zst1_2 {a0 a1 a2 : Option Value} {t : List (Option Value)} {v : Value} (hc : zc1 a1 = true) : zst1 (a0 :: a1 :: a2 :: t) 2 v (a0 :: a1 :: some v :: t) := by
  intro j u hu
  rcases j with _ | j
  · exact Or.inr ⟨by omega, hu, fun h => by omega⟩
  rcases j with _ | j
  · refine Or.inr ⟨by omega, hu, fun h => ?_⟩
    have hu : a1 = some u := hu
    subst hu
    cases u <;> simp_all [zc1, Value.category]
  rcases j with _ | j
  · have hu : some v = some u := hu
    exact Or.inl ⟨by omega, (Option.some.inj hu).symm⟩
  · exact Or.inr ⟨by omega, hu, fun h => by omega⟩
theorem zst1_3 {a0 a1 a2 a3 : Option Value} {t : List (Option Value)} {v : Value} (hc : zc1 a2 = true) : zst1 (a0 :: a1 :: a2 :: a3 :: t) 3 v (a0 :: a1 :: a2 :: some v :: t) := by
  intro j u hu
  rcases j with _ | j
  · exact Or.inr ⟨by omega, hu, fun h => by omega⟩
  rcases j with _ | j
  · exact Or.inr ⟨by omega, hu, fun h => by omega⟩
  rcases j with _ | j
  · refine Or.inr ⟨by omega, hu, fun h => ?_⟩
    have hu : a2 = some u := hu
    subst hu
    cases u <;> simp_all [zc1, Value.category]
  rcases j with _ | j
  · have hu : some v = some u := hu
    exact Or.inl ⟨by omega, (Option.some.inj hu).symm⟩
  · exact Or.inr ⟨by omega, hu, fun h => by omega⟩
theorem zst1_4 {a0 a1 a2 a3 a4 : Option Value} {t : List (Option Value)} {v : Value} (hc : zc1 a3 = true) : zst1 (a0 :: a1 :: a2 :: a3 :: a4 :: t) 4 v (a0 :: a1 :: a2 :: a3 :: some v :: t) := by
  intro j u hu
  rcases j with _ | j
  · exact Or.inr ⟨by omega, hu, fun h => by omega⟩
  rcases j with _ | j
  · exact Or.inr ⟨by omega, hu, fun h => by omega⟩
  rcases j with _ | j
  · exact Or.inr ⟨by omega, hu, fun h => by omega⟩
  rcases j with _ | j
  · refine Or.inr ⟨by omega, hu, fun h => ?_⟩
    have hu : a3 = some u := hu
    subst hu
    cases u <;> simp_all [zc1, Value.category]
  rcases j with _ | j
  · have hu : some v = some u := hu
    exact Or.inl ⟨by omega, (Option.some.inj hu).symm⟩
  · exact Or.inr ⟨by omega, hu, fun h => by omega⟩
theorem zst1_5 {a0 a1 a2 a3 a4 a5 : Option Value} {t : List (Option Value)} {v : Value} (hc : zc1 a4 = true) : zst1 (a0 :: a1 :: a2 :: a3 :: a4 :: a5 :: t) 5 v (a0 :: a1 :: a2 :: a3 :: a4 :: some v :: t) := by
  intro j u hu
  rcases j with _ | j
  · exact Or.inr ⟨by omega, hu, fun h => by omega⟩
  rcases j with _ | j
  · exact Or.inr ⟨by omega, hu, fun h => by omega⟩
  rcases j with _ | j
  · exact Or.inr ⟨by omega, hu, fun h => by omega⟩
  rcases j with _ | j
  · exact Or.inr ⟨by omega, hu, fun h => by omega⟩
  rcases j with _ | j
  · refine Or.inr ⟨by omega, hu, fun h => ?_⟩
    have hu : a4 = some u := hu
    subst hu
    cases u <;> simp_all [zc1, Value.category]
  rcases j with _ | j
  · have hu : some v = some u := hu
    exact Or.inl ⟨by omega, (Option.some.inj hu).symm⟩
  · exact Or.inr ⟨by omega, hu, fun h => by omega⟩
theorem zst1_6 {a0 a1 a2 a3 a4 a5 a6 : Option Value} {t : List (Option Value)} {v : Value} (hc : zc1 a5 = true) : zst1 (a0 :: a1 :: a2 :: a3 :: a4 :: a5 :: a6 :: t) 6 v (a0 :: a1 :: a2 :: a3 :: a4 :: a5 :: some v :: t) := by
  intro j u hu
  rcases j with _ | j
  · exact Or.inr ⟨by omega, hu, fun h => by omega⟩
  rcases j with _ | j
  · exact Or.inr ⟨by omega, hu, fun h => by omega⟩
  rcases j with _ | j
  · exact Or.inr ⟨by omega, hu, fun h => by omega⟩
  rcases j with _ | j
  · exact Or.inr ⟨by omega, hu, fun h => by omega⟩
  rcases j with _ | j
  · exact Or.inr ⟨by omega, hu, fun h => by omega⟩
  rcases j with _ | j
  · refine Or.inr ⟨by omega, hu, fun h => ?_⟩
    have hu : a5 = some u := hu
    subst hu
    cases u <;> simp_all [zc1, Value.category]
  rcases j with _ | j
  · have hu : some v = some u := hu
    exact Or.inl ⟨by omega, (Option.some.inj hu).symm⟩
  · exact Or.inr ⟨by omega, hu, fun h => by omega⟩
theorem zst1_7 {a0 a1 a2 a3 a4 a5 a6 a7 : Option Value} {t : List (Option Value)} {v : Value} (hc : zc1 a6 = true) : zst1 (a0 :: a1 :: a2 :: a3 :: a4 :: a5 :: a6 :: a7 :: t) 7 v (a0 :: a1 :: a2 :: a3 :: a4 :: a5 :: a6 :: some v :: t) := by
  intro j u hu
  rcases j with _ | j
  · exact Or.inr ⟨by omega, hu, fun h => by omega⟩
  rcases j with _ | j
  · exact Or.inr ⟨by omega, hu, fun h => by omega⟩
  rcases j with _ | j
  · exact Or.inr ⟨by omega, hu, fun h => by omega⟩
  rcases j with _ | j
  · exact Or.inr ⟨by omega, hu, fun h => by omega⟩
  rcases j with _ | j
  · exact Or.inr ⟨by omega, hu, fun h => by omega⟩
  rcases j with _ | j
  · exact Or.inr ⟨by omega, hu, fun h => by omega⟩
  rcases j with _ | j
  · refine Or.inr ⟨by omega, hu, fun h => ?_⟩
    have hu : a6 = some u := hu
    subst hu
    cases u <;> simp_all [zc1, Value.category]
  rcases j with _ | j
  · have hu : some v = some u := hu
    exact Or.inl ⟨by omega, (Option.some.inj hu).symm⟩
  · exact Or.inr ⟨by omega, hu, fun h => by omega⟩
theorem zst1_8 {a0 a1 a2 a3 a4 a5 a6 a7 a8 : Option Value} {t : List (Option Value)} {v : Value} (hc : zc1 a7 = true) : zst1 (a0 :: a1 :: a2 :: a3 :: a4 :: a5 :: a6 :: a7 :: a8 :: t) 8 v (a0 :: a1 :: a2 :: a3 :: a4 :: a5 :: a6 :: a7 :: some v :: t) := by
  intro j u hu
  rcases j with _ | j
  · exact Or.inr ⟨by omega, hu, fun h => by omega⟩
  rcases j with _ | j
  · exact Or.inr ⟨by omega, hu, fun h => by omega⟩
  rcases j with _ | j
  · exact Or.inr ⟨by omega, hu, fun h => by omega⟩
  rcases j with _ | j
  · exact Or.inr ⟨by omega, hu, fun h => by omega⟩
  rcases j with _ | j
  · exact Or.inr ⟨by omega, hu, fun h => by omega⟩
  rcases j with _ | j
  · exact Or.inr ⟨by omega, hu, fun h => by omega⟩
  rcases j with _ | j
  · exact Or.inr ⟨by omega, hu, fun h => by omega⟩
  rcases j with _ | j
  · refine Or.inr ⟨by omega, hu, fun h => ?_⟩
    have hu : a7 = some u := hu
    subst hu
    cases u <;> simp_all [zc1, Value.category]
  rcases j with _ | j
  · have hu : some v = some u := hu
    exact Or.inl ⟨by omega, (Option.some.inj hu).symm⟩
  · exact Or.inr ⟨by omega, hu, fun h => by omega⟩
theorem zst1_9 {a0 a1 a2 a3 a4 a5 a6 a7 a8 a9 : Option Value} {t : List (Option Value)} {v : Value} (hc : zc1 a8 = true) : zst1 (a0 :: a1 :: a2 :: a3 :: a4 :: a5 :: a6 :: a7 :: a8 :: a9 :: t) 9 v (a0 :: a1 :: a2 :: a3 :: a4 :: a5 :: a6 :: a7 :: a8 :: some v :: t) := by
  intro j u hu
  rcases j with _ | j
  · exact Or.inr ⟨by omega, hu, fun h => by omega⟩
  rcases j with _ | j
  · exact Or.inr ⟨by omega, hu, fun h => by omega⟩
  rcases j with _ | j
  · exact Or.inr ⟨by omega, hu, fun h => by omega⟩
  rcases j with _ | j
  · exact Or.inr ⟨by omega, hu, fun h => by omega⟩
  rcases j with _ | j
  · exact Or.inr ⟨by omega, hu, fun h => by omega⟩
  rcases j with _ | j
  · exact Or.inr ⟨by omega, hu, fun h => by omega⟩
  rcases j with _ | j
  · exact Or.inr ⟨by omega, hu, fun h => by omega⟩
  rcases j with _ | j
  · exact Or.inr ⟨by omega, hu, fun h => by omega⟩
  rcases j with _ | j
  · refine Or.inr ⟨by omega, hu, fun h => ?_⟩
    have hu : a8 = some u := hu
    subst hu
    cases u <;> simp_all [zc1, Value.category]
  rcases j with _ | j
  · have hu : some v = some u := hu
    exact Or.inl ⟨by omega, (Option.some.inj hu).symm⟩
  · exact Or.inr ⟨by omega, hu, fun h => by omega⟩
theorem zst1_10 {a0 a1 a2 a3 a4 a5 a6 a7 a8 a9 a10 : Option Value} {t : List (Option Value)} {v : Value} (hc : zc1 a9 = true) : zst1 (a0 :: a1 :: a2 :: a3 :: a4 :: a5 :: a6 :: a7 :: a8 :: a9 :: a10 :: t) 10 v (a0 :: a1 :: a2 :: a3 :: a4 :: a5 :: a6 :: a7 :: a8 :: a9 :: some v :: t) := by
  intro j u hu
  rcases j with _ | j
  · exact Or.inr ⟨by omega, hu, fun h => by omega⟩
  rcases j with _ | j
  · exact Or.inr ⟨by omega, hu, fun h => by omega⟩
  rcases j with _ | j
  · exact Or.inr ⟨by omega, hu, fun h => by omega⟩
  rcases j with _ | j
  · exact Or.inr ⟨by omega, hu, fun h => by omega⟩
  rcases j with _ | j
  · exact Or.inr ⟨by omega, hu, fun h => by omega⟩
  rcases j with _ | j
  · exact Or.inr ⟨by omega, hu, fun h => by omega⟩
  rcases j with _ | j
  · exact Or.inr ⟨by omega, hu, fun h => by omega⟩
  rcases j with _ | j
  · exact Or.inr ⟨by omega, hu, fun h => by omega⟩
  rcases j with _ | j
  · exact Or.inr ⟨by omega, hu, fun h => by omega⟩
  rcases j with _ | j
  · refine Or.inr ⟨by omega, hu, fun h => ?_⟩
    have hu : a9 = some u := hu
    subst hu
    cases u <;> simp_all [zc1, Value.category]
  rcases j with _ | j
  · have hu : some v = some u := hu
    exact Or.inl ⟨by omega, (Option.some.inj hu).symm⟩
  · exact Or.inr ⟨by omega, hu, fun h => by omega⟩
theorem zst1_11 {a0 a1 a2 a3 a4 a5 a6 a7 a8 a9 a10 a11 : Option Value} {t : List (Option Value)} {v : Value} (hc : zc1 a10 = true) : zst1 (a0 :: a1 :: a2 :: a3 :: a4 :: a5 :: a6 :: a7 :: a8 :: a9 :: a10 :: a11 :: t) 11 v (a0 :: a1 :: a2 :: a3 :: a4 :: a5 :: a6 :: a7 :: a8 :: a9 :: a10 :: some v :: t) := by
  intro j u hu
  rcases j with _ | j
  · exact Or.inr ⟨by omega, hu, fun h => by omega⟩
  rcases j with _ | j
  · exact Or.inr ⟨by omega, hu, fun h => by omega⟩
  rcases j with _ | j
  · exact Or.inr ⟨by omega, hu, fun h => by omega⟩
  rcases j with _ | j
  · exact Or.inr ⟨by omega, hu, fun h => by omega⟩
  rcases j with _ | j
  · exact Or.inr ⟨by omega, hu, fun h => by omega⟩
  rcases j with _ | j
  · exact Or.inr ⟨by omega, hu, fun h => by omega⟩
  rcases j with _ | j
  · exact Or.inr ⟨by omega, hu, fun h => by omega⟩
  rcases j with _ | j
  · exact Or.inr ⟨by omega, hu, fun h => by omega⟩
  rcases j with _ | j
  · exact Or.inr ⟨by omega, hu, fun h => by omega⟩
  rcases j with _ | j
  · exact Or.inr ⟨by omega, hu, fun h => by omega⟩
  rcases j with _ | j
  · refine Or.inr ⟨by omega, hu, fun h => ?_⟩
    have hu : a10 = some u := hu
    subst hu
    cases u <;> simp_all [zc1, Value.category]
  rcases j with _ | j
  · have hu : some v = some u := hu
    exact Or.inl ⟨by omega, (Option.some.inj hu).symm⟩
  · exact Or.inr ⟨by omega, hu, fun h => by omega⟩
theorem zst2_1 {a0 a1 a2 : Option Value} {t : List (Option Value)} {v : Value} (hc : zc1 a0 = true) : zst2 (a0 :: a1 :: a2 :: t) 1 v (a0 :: some v :: none :: t) := by
  intro j u hu
  rcases j with _ | j
  · refine Or.inr ⟨by omega, by omega, hu, fun h => ?_⟩
    have hu : a0 = some u := hu
    subst hu
    cases u <;> simp_all [zc1, Value.category]
  rcases j with _ | j
  · have hu : some v = some u := hu
    exact Or.inl ⟨by omega, (Option.some.inj hu).symm⟩
  rcases j with _ | j
  · have hu : (none : Option Value) = some u := hu
    cases hu
  · exact Or.inr ⟨by omega, by omega, hu, fun h => by omega⟩
theorem zst2_2 {a0 a1 a2 a3 : Option Value} {t : List (Option Value)} {v : Value} (hc : zc1 a1 = true) : zst2 (a0 :: a1 :: a2 :: a3 :: t) 2 v (a0 :: a1 :: some v :: none :: t) := by
  intro j u hu
  rcases j with _ | j
  · exact Or.inr ⟨by omega, by omega, hu, fun h => by omega⟩
  rcases j with _ | j
  · refine Or.inr ⟨by omega, by omega, hu, fun h => ?_⟩
    have hu : a1 = some u := hu
    subst hu
    cases u <;> simp_all [zc1, Value.category]
  rcases j with _ | j
  · have hu : some v = some u := hu
    exact Or.inl ⟨by omega, (Option.some.inj hu).symm⟩
  rcases j with _ | j
  · have hu : (none : Option Value) = some u := hu
    cases hu
  · exact Or.inr ⟨by omega, by omega, hu, fun h => by omega⟩
theorem zst2_3 {a0 a1 a2 a3 a4 : Option Value} {t : List (Option Value)} {v : Value} (hc : zc1 a2 = true) : zst2 (a0 :: a1 :: a2 :: a3 :: a4 :: t) 3 v (a0 :: a1 :: a2 :: some v :: none :: t) := by
  intro j u hu
  rcases j with _ | j
  · exact Or.inr ⟨by omega, by omega, hu, fun h => by omega⟩
  rcases j with _ | j
  · exact Or.inr ⟨by omega, by omega, hu, fun h => by omega⟩
  rcases j with _ | j
  · refine Or.inr ⟨by omega, by omega, hu, fun h => ?_⟩
    have hu : a2 = some u := hu
    subst hu
    cases u <;> simp_all [zc1, Value.category]
  rcases j with _ | j
  · have hu : some v = some u := hu
    exact Or.inl ⟨by omega, (Option.some.inj hu).symm⟩
  rcases j with _ | j
  · have hu : (none : Option Value) = some u := hu
    cases hu
  · exact Or.inr ⟨by omega, by omega, hu, fun h => by omega⟩
theorem zst2_4 {a0 a1 a2 a3 a4 a5 : Option Value} {t : List (Option Value)} {v : Value} (hc : zc1 a3 = true) : zst2 (a0 :: a1 :: a2 :: a3 :: a4 :: a5 :: t) 4 v (a0 :: a1 :: a2 :: a3 :: some v :: none :: t) := by
  intro j u hu
  rcases j with _ | j
  · exact Or.inr ⟨by omega, by omega, hu, fun h => by omega⟩
  rcases j with _ | j
  · exact Or.inr ⟨by omega, by omega, hu, fun h => by omega⟩
  rcases j with _ | j
  · exact Or.inr ⟨by omega, by omega, hu, fun h => by omega⟩
  rcases j with _ | j
  · refine Or.inr ⟨by omega, by omega, hu, fun h => ?_⟩
    have hu : a3 = some u := hu
    subst hu
    cases u <;> simp_all [zc1, Value.category]
  rcases j with _ | j
  · have hu : some v = some u := hu
    exact Or.inl ⟨by omega, (Option.some.inj hu).symm⟩
  rcases j with _ | j
  · have hu : (none : Option Value) = some u := hu
    cases hu
  · exact Or.inr ⟨by omega, by omega, hu, fun h => by omega⟩
theorem zst2_5 {a0 a1 a2 a3 a4 a5 a6 : Option Value} {t : List (Option Value)} {v : Value} (hc : zc1 a4 = true) : zst2 (a0 :: a1 :: a2 :: a3 :: a4 :: a5 :: a6 :: t) 5 v (a0 :: a1 :: a2 :: a3 :: a4 :: some v :: none :: t) := by
  intro j u hu
  rcases j with _ | j
  · exact Or.inr ⟨by omega, by omega, hu, fun h => by omega⟩
  rcases j with _ | j
  · exact Or.inr ⟨by omega, by omega, hu, fun h => by omega⟩
  rcases j with _ | j
  · exact Or.inr ⟨by omega, by omega, hu, fun h => by omega⟩
  rcases j with _ | j
  · exact Or.inr ⟨by omega, by omega, hu, fun h => by omega⟩
  rcases j with _ | j
  · refine Or.inr ⟨by omega, by omega, hu, fun h => ?_⟩
    have hu : a4 = some u := hu
    subst hu
    cases u <;> simp_all [zc1, Value.category]
  rcases j with _ | j
  · have hu : some v = some u := hu
    exact Or.inl ⟨by omega, (Option.some.inj hu).symm⟩
  rcases j with _ | j
  · have hu : (none : Option Value) = some u := hu
    cases hu
  · exact Or.inr ⟨by omega, by omega, hu, fun h => by omega⟩
theorem zst2_6 {a0 a1 a2 a3 a4 a5 a6 a7 : Option Value} {t : List (Option Value)} {v : Value} (hc : zc1 a5 = true) : zst2 (a0 :: a1 :: a2 :: a3 :: a4 :: a5 :: a6 :: a7 :: t) 6 v (a0 :: a1 :: a2 :: a3 :: a4 :: a5 :: some v :: none :: t) := by
  intro j u hu
  rcases j with _ | j
  · exact Or.inr ⟨by omega, by omega, hu, fun h => by omega⟩
  rcases j with _ | j
  · exact Or.inr ⟨by omega, by omega, hu, fun h => by omega⟩
  rcases j with _ | j
  · exact Or.inr ⟨by omega, by omega, hu, fun h => by omega⟩
  rcases j with _ | j
  · exact Or.inr ⟨by omega, by omega, hu, fun h => by omega⟩
  rcases j with _ | j
  · exact Or.inr ⟨by omega, by omega, hu, fun h => by omega⟩
  rcases j with _ | j
  · refine Or.inr ⟨by omega, by omega, hu, fun h => ?_⟩
    have hu : a5 = some u := hu
    subst hu
    cases u <;> simp_all [zc1, Value.category]
  rcases j with _ | j
  · have hu : some v = some u := hu
    exact Or.inl ⟨by omega, (Option.some.inj hu).symm⟩
  rcases j with _ | j
  · have hu : (none : Option Value) = some u := hu
    cases hu
  · exact Or.inr ⟨by omega, by omega, hu, fun h => by omega⟩
theorem zst2_7 {a0 a1 a2 a3 a4 a5 a6 a7 a8 : Option Value} {t : List (Option Value)} {v : Value} (hc : zc1 a6 = true) : zst2 (a0 :: a1 :: a2 :: a3 :: a4 :: a5 :: a6 :: a7 :: a8 :: t) 7 v (a0 :: a1 :: a2 :: a3 :: a4 :: a5 :: a6 :: some v :: none :: t) := by
  intro j u hu
  rcases j with _ | j
  · exact Or.inr ⟨by omega, by omega, hu, fun h => by omega⟩
  rcases j with _ | j
  · exact Or.inr ⟨by omega, by omega, hu, fun h => by omega⟩
  rcases j with _ | j
  · exact Or.inr ⟨by omega, by omega, hu, fun h => by omega⟩
  rcases j with _ | j
  · exact Or.inr ⟨by omega, by omega, hu, fun h => by omega⟩
  rcases j with _ | j
  · exact Or.inr ⟨by omega, by omega, hu, fun h => by omega⟩
  rcases j with _ | j
  · exact Or.inr ⟨by omega, by omega, hu, fun h => by omega⟩
  rcases j with _ | j
  · refine Or.inr ⟨by omega, by omega, hu, fun h => ?_⟩
    have hu : a6 = some u := hu
    subst hu
    cases u <;> simp_all [zc1, Value.category]
  rcases j with _ | j
  · have hu : some v = some u := hu
    exact Or.inl ⟨by omega, (Option.some.inj hu).symm⟩
  rcases j with _ | j
  · have hu : (none : Option Value) = some u := hu
    cases hu
  · exact Or.inr ⟨by omega, by omega, hu, fun h => by omega⟩
theorem zst2_8 {a0 a1 a2 a3 a4 a5 a6 a7 a8 a9 : Option Value} {t : List (Option Value)} {v : Value} (hc : zc1 a7 = true) : zst2 (a0 :: a1 :: a2 :: a3 :: a4 :: a5 :: a6 :: a7 :: a8 :: a9 :: t) 8 v (a0 :: a1 :: a2 :: a3 :: a4 :: a5 :: a6 :: a7 :: some v :: none :: t) := by
  intro j u hu
  rcases j with _ | j
  · exact Or.inr ⟨by omega, by omega, hu, fun h => by omega⟩
  rcases j with _ | j
  · exact Or.inr ⟨by omega, by omega, hu, fun h => by omega⟩
  rcases j with _ | j
  · exact Or.inr ⟨by omega, by omega, hu, fun h => by omega⟩
  rcases j with _ | j
  · exact Or.inr ⟨by omega, by omega, hu, fun h => by omega⟩
  rcases j with _ | j
  · exact Or.inr ⟨by omega, by omega, hu, fun h => by omega⟩
  rcases j with _ | j
  · exact Or.inr ⟨by omega, by omega, hu, fun h => by omega⟩
  rcases j with _ | j
  · exact Or.inr ⟨by omega, by omega, hu, fun h => by omega⟩
  rcases j with _ | j
  · refine Or.inr ⟨by omega, by omega, hu, fun h => ?_⟩
    have hu : a7 = some u := hu
    subst hu
    cases u <;> simp_all [zc1, Value.category]
  rcases j with _ | j
  · have hu : some v = some u := hu
    exact Or.inl ⟨by omega, (Option.some.inj hu).symm⟩
  rcases j with _ | j
  · have hu : (none : Option Value) = some u := hu
    cases hu
  · exact Or.inr ⟨by omega, by omega, hu, fun h => by omega⟩
theorem zst2_9 {a0 a1 a2 a3 a4 a5 a6 a7 a8 a9 a10 : Option Value} {t : List (Option Value)} {v : Value} (hc : zc1 a8 = true) : zst2 (a0 :: a1 :: a2 :: a3 :: a4 :: a5 :: a6 :: a7 :: a8 :: a9 :: a10 :: t) 9 v (a0 :: a1 :: a2 :: a3 :: a4 :: a5 :: a6 :: a7 :: a8 :: some v :: none :: t) := by
  intro j u hu
  rcases j with _ | j
  · exact Or.inr ⟨by omega, by omega, hu, fun h => by omega⟩
  rcases j with _ | j
  · exact Or.inr ⟨by omega, by omega, hu, fun h => by omega⟩
  rcases j with _ | j
  · exact Or.inr ⟨by omega, by omega, hu, fun h => by omega⟩
  rcases j with _ | j
  · exact Or.inr ⟨by omega, by omega, hu, fun h => by omega⟩
  rcases j with _ | j
  · exact Or.inr ⟨by omega, by omega, hu, fun h => by omega⟩
  rcases j with _ | j
  · exact Or.inr ⟨by omega, by omega, hu, fun h => by omega⟩
  rcases j with _ | j
  · exact Or.inr ⟨by omega, by omega, hu, fun h => by omega⟩
  rcases j with _ | j
  · exact Or.inr ⟨by omega, by omega, hu, fun h => by omega⟩
  rcases j with _ | j
  · refine Or.inr ⟨by omega, by omega, hu, fun h => ?_⟩
    have hu : a8 = some u := hu
    subst hu
    cases u <;> simp_all [zc1, Value.category]
  rcases j with _ | j
  · have hu : some v = some u := hu
    exact Or.inl ⟨by omega, (Option.some.inj hu).symm⟩
  rcases j with _ | j
  · have hu : (none : Option Value) = some u := hu
    cases hu
  · exact Or.inr ⟨by omega, by omega, hu, fun h => by omega⟩
theorem zst2_10 {a0 a1 a2 a3 a4 a5 a6 a7 a8 a9 a10 a11 : Option Value} {t : List (Option Value)} {v : Value} (hc : zc1 a9 = true) : zst2 (a0 :: a1 :: a2 :: a3 :: a4 :: a5 :: a6 :: a7 :: a8 :: a9 :: a10 :: a11 :: t) 10 v (a0 :: a1 :: a2 :: a3 :: a4 :: a5 :: a6 :: a7 :: a8 :: a9 :: some v :: none :: t) := by
  intro j u hu
  rcases j with _ | j
  · exact Or.inr ⟨by omega, by omega, hu, fun h => by omega⟩
  rcases j with _ | j
  · exact Or.inr ⟨by omega, by omega, hu, fun h => by omega⟩
  rcases j with _ | j
  · exact Or.inr ⟨by omega, by omega, hu, fun h => by omega⟩
  rcases j with _ | j
  · exact Or.inr ⟨by omega, by omega, hu, fun h => by omega⟩
  rcases j with _ | j
  · exact Or.inr ⟨by omega, by omega, hu, fun h => by omega⟩
  rcases j with _ | j
  · exact Or.inr ⟨by omega, by omega, hu, fun h => by omega⟩
  rcases j with _ | j
  · exact Or.inr ⟨by omega, by omega, hu, fun h => by omega⟩
  rcases j with _ | j
  · exact Or.inr ⟨by omega, by omega, hu, fun h => by omega⟩
  rcases j with _ | j
  · exact Or.inr ⟨by omega, by omega, hu, fun h => by omega⟩
  rcases j with _ | j
  · refine Or.inr ⟨by omega, by omega, hu, fun h => ?_⟩
    have hu : a9 = some u := hu
    subst hu
    cases u <;> simp_all [zc1, Value.category]
  rcases j with _ | j
  · have hu : some v = some u := hu
    exact Or.inl ⟨by omega, (Option.some.inj hu).symm⟩
  rcases j with _ | j
  · have hu : (none : Option Value) = some u := hu
    cases hu
  · exact Or.inr ⟨by omega, by omega, hu, fun h => by omega⟩
