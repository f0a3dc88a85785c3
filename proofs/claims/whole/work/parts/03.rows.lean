/-! ===== the judgement, its rows ===== -/
abbrev zMc : Type := Program × Launch × Env × Room × State × MethodId × Array Value × List Frame × Method × Code
abbrev zG : Type := zMc × zW × (Nat → Prop) × (State → Prop)
abbrev zp (Γ : zG) : Program := Γ.1.1
abbrev zln (Γ : zG) : Launch := Γ.1.2.1
abbrev zen (Γ : zG) : Env := Γ.1.2.2.1
abbrev zRm (Γ : zG) : Room := Γ.1.2.2.2.1
abbrev zs (Γ : zG) : State := Γ.1.2.2.2.2.1
abbrev zmi (Γ : zG) : MethodId := Γ.1.2.2.2.2.2.1
abbrev za (Γ : zG) : Array Value := Γ.1.2.2.2.2.2.2.1
abbrev zbl (Γ : zG) : List Frame := Γ.1.2.2.2.2.2.2.2.1
abbrev zmt (Γ : zG) : Method := Γ.1.2.2.2.2.2.2.2.2.1
abbrev zcd (Γ : zG) : Code := Γ.1.2.2.2.2.2.2.2.2.2
abbrev zw (Γ : zG) : zW := Γ.2.1
abbrev zA (Γ : zG) : Nat → Prop := Γ.2.2.1
abbrev zQ (Γ : zG) : State → Prop := Γ.2.2.2
abbrev zWW (Γ : zG) (H : Heap) (locs : List Loc) (k n : Nat) (g : JFrame) : Prop := W (zp Γ) (zln Γ) (zen Γ) (zRm Γ) (zs Γ) (zmi Γ) (za Γ) (zbl Γ) (zmt Γ) (zcd Γ) H locs k n (zQ Γ) g
/-- the array classes -/
def zty (w : zW) : List (ClassId × FieldType) := [(w.2.1 0, .int), (w.2.1 1, .byte), (w.2.1 2, .long), (w.2.1 3, .boolean), (w.2.1 4, .object RX0)]
/-- what a method's body knows of the machine -/
def zOk (Γ : zG) (own : String) (b : ByteArray) (mL d : Nat) : Prop :=
  (zp Γ).tables.exec = Jvm.exec ∧ (zcd Γ).code = b ∧ (zcd Γ).maxLocals = mL ∧ (zs Γ).vm.findClass own = some (zmi Γ).cls ∧ (∀ w ∈ zAL, w.before (za Γ) (zs Γ) = true) ∧ va_K (zw Γ).1 vwCl (zty (zw Γ)) (zs Γ) ∧ (∀ q, (zs Γ).heap.size ≤ q → zA Γ q) ∧ (d ≤ (zRm Γ).frames ∧ 36 * d ≤ (zRm Γ).locals) ∧ (zmt Γ).locks = false
/-- from here on, with the world ws, k cells and n slots made, at pc with these locals and stack: the run comes to its end -/
def zVw (Γ : zG) (ws : va_W) (k n : Nat) (pc : Nat) (ls : List (Option Value)) (st : List Value) : Prop :=
  ∀ (H : Heap) (locs : List Loc) (arr : Array Slot), va_P (zw Γ).1 vwCl ws H → va_D (zA Γ) ws → va_S (zA Γ) (zs Γ).heap H locs → zlok (zcd Γ).maxLocals arr ls → zWW Γ H locs k n (F0 (zmi Γ) pc arr st)
abbrev zV (Γ : zG) (σ : zM) (pc : Nat) (ls : List (Option Value)) (st : List Value) : Prop := zVw Γ (zwl (zw Γ) σ) 0 0 pc ls st
section ZR
variable {Γ : zG} {own : String} {b : ByteArray} {mL d : Nat} {ws : va_W} {k n : Nat} {pc q t : Nat} {ls : List (Option Value)} {st : List Value} {x y : Int}
theorem z_iconst (h : zOk Γ own b mL d) (hd : zD b pc (.iconst x) 1 q) (kk : zVw Γ ws k n q ls (zi x :: st)) : zVw Γ ws k n pc ls st := by
  obtain ⟨hd, rfl⟩ := hd
  intro H locs arr hP hD hS hl
  exact lv_iconst h.1 h.2.1 hd rfl (kk H locs arr hP hD hS hl)
theorem z_bipush (h : zOk Γ own b mL d) (hd : zD b pc (.bipush x) 2 q) (hv : (Int8.ofInt x).toInt32 = Int32.ofInt x) (kk : zVw Γ ws k n q ls (zi x :: st)) : zVw Γ ws k n pc ls st := by
  obtain ⟨hd, rfl⟩ := hd
  intro H locs arr hP hD hS hl
  exact lv_bipush h.1 h.2.1 hd hv (kk H locs arr hP hD hS hl)
theorem z_sipush (h : zOk Γ own b mL d) (hd : zD b pc (.sipush x) 3 q) (hv : (Int16.ofInt x).toInt32 = Int32.ofInt x) (kk : zVw Γ ws k n q ls (zi x :: st)) : zVw Γ ws k n pc ls st := by
  obtain ⟨hd, rfl⟩ := hd
  intro H locs arr hP hD hS hl
  exact lv_sipush h.1 h.2.1 hd hv (kk H locs arr hP hD hS hl)
theorem z_lconst (h : zOk Γ own b mL d) {f : Fin 2} (hd : zD b pc (.lconst f) 1 q) (hv : Int64.ofNat (f : Nat) = Int64.ofInt x) (kk : zVw Γ ws k n q ls (zl x :: st)) : zVw Γ ws k n pc ls st := by
  obtain ⟨hd, rfl⟩ := hd
  intro H locs arr hP hD hS hl
  exact lv_lconst h.1 h.2.1 hd hv (kk H locs arr hP hD hS hl)
theorem z_ldc2 (h : zOk Γ own b mL d) {idx : Nat} {v : Int64} (hd : zD b pc (.ldc2_w idx) 3 q) (hc : Cond.constantLong own idx v ∈ zAL) (hv : v = Int64.ofInt x) (kk : zVw Γ ws k n q ls (zl x :: st)) : zVw Γ ws k n pc ls st := by
  obtain ⟨hd, rfl⟩ := hd
  intro H locs arr hP hD hS hl
  subst hv
  exact lv_ldc2 h.1 h.2.1 h.2.2.2.1 (h.2.2.2.2.1 _ hc) hd (kk H locs arr hP hD hS hl)
theorem z_ldcw (h : zOk Γ own b mL d) {idx : Nat} {v : Int32} (hd : zD b pc (.ldc_w idx) 3 q) (hc : Cond.constant own idx v ∈ zAL) (hv : v = Int32.ofInt x) (kk : zVw Γ ws k n q ls (zi x :: st)) : zVw Γ ws k n pc ls st := by
  obtain ⟨hd, rfl⟩ := hd
  intro H locs arr hP hD hS hl
  subst hv
  intro T hT X
  obtain ⟨t, a, b'⟩ := kk H locs arr hP hD hS hl T hT X
  exact ⟨t, va_ldcwI X h.1 h.2.2.2.1 (h.2.2.2.2.1 _ hc) (g := F0 (zmi Γ) pc arr st) rfl (by rw [h.2.1]; exact hd) t a, b'⟩
theorem z_iload_n (h : zOk Γ own b mL d) {f : Fin 4} (hd : zD b pc (.iload_n f) 1 q) (hl : zg ls f.val = some (zi x)) (kk : zVw Γ ws k n q ls (zi x :: st)) : zVw Γ ws k n pc ls st := by
  obtain ⟨hd, rfl⟩ := hd
  intro H locs arr hP hD hS hl'
  exact lv_iload_n h.1 h.2.1 hd rfl (zlok_at hl' hl) (kk H locs arr hP hD hS hl')
theorem z_iload (h : zOk Γ own b mL d) {i : Nat} (hd : zD b pc (.iload i) 2 q) (hl : zg ls i = some (zi x)) (kk : zVw Γ ws k n q ls (zi x :: st)) : zVw Γ ws k n pc ls st := by
  obtain ⟨hd, rfl⟩ := hd
  intro H locs arr hP hD hS hl'
  exact lv_iload h.1 h.2.1 hd (zlok_at hl' hl) (kk H locs arr hP hD hS hl')
theorem z_lload_n (h : zOk Γ own b mL d) {f : Fin 4} (hd : zD b pc (.lload_n f) 1 q) (hl : zg ls f.val = some (zl x)) (kk : zVw Γ ws k n q ls (zl x :: st)) : zVw Γ ws k n pc ls st := by
  obtain ⟨hd, rfl⟩ := hd
  intro H locs arr hP hD hS hl'
  exact lv_lload_n h.1 h.2.1 hd rfl (zlok_at hl' hl) (kk H locs arr hP hD hS hl')
theorem z_lload (h : zOk Γ own b mL d) {i : Nat} (hd : zD b pc (.lload i) 2 q) (hl : zg ls i = some (zl x)) (kk : zVw Γ ws k n q ls (zl x :: st)) : zVw Γ ws k n pc ls st := by
  obtain ⟨hd, rfl⟩ := hd
  intro H locs arr hP hD hS hl'
  exact lv_lload h.1 h.2.1 hd (zlok_at hl' hl) (kk H locs arr hP hD hS hl')
theorem z_aload_n (h : zOk Γ own b mL d) {f : Fin 4} {a : Nat} (hd : zD b pc (.aload_n f) 1 q) (hl : zg ls f.val = some (.ref a)) (kk : zVw Γ ws k n q ls (.ref a :: st)) : zVw Γ ws k n pc ls st := by
  obtain ⟨hd, rfl⟩ := hd
  intro H locs arr hP hD hS hl'
  exact lv_aload_n h.1 h.2.1 hd rfl (zlok_at hl' hl) (kk H locs arr hP hD hS hl')
theorem z_raload_n (h : zOk Γ own b mL d) {f : Fin 4} {w : zW} {c : Nat} (hd : zD b pc (.aload_n f) 1 q) (hl : zg ls f.val = some (zr w c)) (kk : zVw Γ ws k n q ls (zr w c :: st)) : zVw Γ ws k n pc ls st := z_aload_n h hd hl kk
theorem z_ist1_n (h : zOk Γ own b mL d) {f : Fin 4} {ls' : List (Option Value)} (hd : zD b pc (.istore_n f) 1 q) (hi : f.val < mL) (hs : zst1 ls f.val (zi x) ls') (kk : zVw Γ ws k n q ls' st) : zVw Γ ws k n pc ls (zi x :: st) := by
  obtain ⟨hd, rfl⟩ := hd
  intro H locs arr hP hD hS hl'
  exact lv_istore_n h.1 h.2.1 hd rfl hl' (by rw [h.2.2.1]; exact hi) rfl (fun arr' h' => kk H locs arr' hP hD hS (zlok_st1 h' hs))
theorem z_ist1 (h : zOk Γ own b mL d) {i : Nat} {ls' : List (Option Value)} (hd : zD b pc (.istore i) 2 q) (hi : i < mL) (hs : zst1 ls i (zi x) ls') (kk : zVw Γ ws k n q ls' st) : zVw Γ ws k n pc ls (zi x :: st) := by
  obtain ⟨hd, rfl⟩ := hd
  intro H locs arr hP hD hS hl'
  exact lv_istore h.1 h.2.1 hd hl' (by rw [h.2.2.1]; exact hi) rfl (fun arr' h' => kk H locs arr' hP hD hS (zlok_st1 h' hs))
theorem z_ast1_n (h : zOk Γ own b mL d) {f : Fin 4} {a : Nat} {ls' : List (Option Value)} (hd : zD b pc (.astore_n f) 1 q) (hi : f.val < mL) (hs : zst1 ls f.val (.ref a) ls') (kk : zVw Γ ws k n q ls' st) : zVw Γ ws k n pc ls (.ref a :: st) := by
  obtain ⟨hd, rfl⟩ := hd
  intro H locs arr hP hD hS hl'
  exact lv_astore_n h.1 h.2.1 hd rfl hl' (by rw [h.2.2.1]; exact hi) rfl (fun arr' h' => kk H locs arr' hP hD hS (zlok_st1 h' hs))
theorem z_rst1_n (h : zOk Γ own b mL d) {f : Fin 4} {w : zW} {c : Nat} {ls' : List (Option Value)} (hd : zD b pc (.astore_n f) 1 q) (hi : f.val < mL) (hs : zst1 ls f.val (zr w c) ls') (kk : zVw Γ ws k n q ls' st) : zVw Γ ws k n pc ls (zr w c :: st) := z_ast1_n h hd hi hs kk
theorem z_lst_n (h : zOk Γ own b mL d) {f : Fin 4} {ls' : List (Option Value)} (hd : zD b pc (.lstore_n f) 1 q) (hi : f.val + 1 < mL) (hs : zst2 ls f.val (zl x) ls') (kk : zVw Γ ws k n q ls' st) : zVw Γ ws k n pc ls (zl x :: st) := by
  obtain ⟨hd, rfl⟩ := hd
  intro H locs arr hP hD hS hl'
  exact lv_lstore_n h.1 h.2.1 hd rfl hl' (by rw [h.2.2.1]; exact hi) rfl (fun arr' h' => kk H locs arr' hP hD hS (zlok_st2 h' hs))
theorem z_lst (h : zOk Γ own b mL d) {i : Nat} {ls' : List (Option Value)} (hd : zD b pc (.lstore i) 2 q) (hi : i + 1 < mL) (hs : zst2 ls i (zl x) ls') (kk : zVw Γ ws k n q ls' st) : zVw Γ ws k n pc ls (zl x :: st) := by
  obtain ⟨hd, rfl⟩ := hd
  intro H locs arr hP hD hS hl'
  exact lv_lstore h.1 h.2.1 hd hl' (by rw [h.2.2.1]; exact hi) rfl (fun arr' h' => kk H locs arr' hP hD hS (zlok_st2 h' hs))
theorem z_iinc (h : zOk Γ own b mL d) {i : Nat} {ls' : List (Option Value)} (hd : zD b pc (.iinc i y) 3 q) (hi : i < mL) (hl : zg ls i = some (zi x)) (hs : zst1 ls i (zi (x + y)) ls') (kk : zVw Γ ws k n q ls' st) : zVw Γ ws k n pc ls st := by
  obtain ⟨hd, rfl⟩ := hd
  intro H locs arr hP hD hS hl'
  have hm := (zas_mem ls 0 (i, zi x)).mpr ⟨Nat.zero_le _, hl⟩
  obtain ⟨j, hj⟩ := List.getElem?_of_mem hm
  exact lv_iinc h.1 h.2.1 hd hl' hj (show _ = Int32.ofInt (x + y) from (Int32.ofInt_add x y).symm) (by rw [h.2.2.1]; exact hi) rfl (fun arr' h' => kk H locs arr' hP hD hS (zlok_st1 h' hs))
theorem z_iadd (h : zOk Γ own b mL d) (hd : zD b pc .iadd 1 q) (kk : zVw Γ ws k n q ls (zi (x + y) :: st)) : zVw Γ ws k n pc ls (zi y :: zi x :: st) := by
  obtain ⟨hd, rfl⟩ := hd
  intro H locs arr hP hD hS hl'
  refine lv_iadd h.1 h.2.1 hd ?_
  rw [← Int32.ofInt_add]
  exact kk H locs arr hP hD hS hl'
theorem z_isub (h : zOk Γ own b mL d) (hd : zD b pc .isub 1 q) (kk : zVw Γ ws k n q ls (zi (x - y) :: st)) : zVw Γ ws k n pc ls (zi y :: zi x :: st) := by
  obtain ⟨hd, rfl⟩ := hd
  intro H locs arr hP hD hS hl'
  refine lv_isub h.1 h.2.1 hd ?_
  rw [← Int32.ofInt_sub]
  exact kk H locs arr hP hD hS hl'
theorem z_imul (h : zOk Γ own b mL d) (hd : zD b pc .imul 1 q) (kk : zVw Γ ws k n q ls (zi (x * y) :: st)) : zVw Γ ws k n pc ls (zi y :: zi x :: st) := by
  obtain ⟨hd, rfl⟩ := hd
  intro H locs arr hP hD hS hl'
  refine lv_imul h.1 h.2.1 hd ?_
  rw [← Int32.ofInt_mul]
  exact kk H locs arr hP hD hS hl'
theorem z_ladd (h : zOk Γ own b mL d) (hd : zD b pc .ladd 1 q) (kk : zVw Γ ws k n q ls (zl (x + y) :: st)) : zVw Γ ws k n pc ls (zl y :: zl x :: st) := by
  obtain ⟨hd, rfl⟩ := hd
  intro H locs arr hP hD hS hl'
  refine lv_ladd h.1 h.2.1 hd ?_
  rw [← Int64.ofInt_add]
  exact kk H locs arr hP hD hS hl'
theorem z_lmul (h : zOk Γ own b mL d) (hd : zD b pc .lmul 1 q) (kk : zVw Γ ws k n q ls (zl (x * y) :: st)) : zVw Γ ws k n pc ls (zl y :: zl x :: st) := by
  obtain ⟨hd, rfl⟩ := hd
  intro H locs arr hP hD hS hl'
  refine lv_lmul h.1 h.2.1 hd ?_
  rw [← Int64.ofInt_mul]
  exact kk H locs arr hP hD hS hl'
theorem z32_of {a : Int32} {v : Int} (h : a.toInt = v) : a = Int32.ofInt v := by rw [← h, Int32.ofInt_toInt]
theorem z64_of {a : Int64} {v : Int} (h : a.toInt = v) : a = Int64.ofInt v := by rw [← h, Int64.ofInt_toInt]
theorem z32_nat {x : Int} (h : 0 ≤ x) : Int32.ofInt x = nI x.toNat := by
  show Int32.ofInt x = Int32.ofNat x.toNat
  rw [← Int32.ofInt_eq_ofNat, Int.toNat_of_nonneg h]
theorem z64_nat {x : Int} (h : 0 ≤ x) : Int64.ofInt x = lN x.toNat := by
  show Int64.ofInt x = Int64.ofNat x.toNat
  rw [← Int64.ofInt_eq_ofNat, Int.toNat_of_nonneg h]
theorem z_idiv (h : zOk Γ own b mL d) (hd : zD b pc .idiv 1 q) (hx : 0 ≤ x ∧ x ≤ 2147483647) (hy : 0 < y ∧ y ≤ 2147483647) (kk : zVw Γ ws k n q ls (zi (x / y) :: st)) : zVw Γ ws k n pc ls (zi y :: zi x :: st) := by
  obtain ⟨hd, rfl⟩ := hd
  intro H locs arr hP hD hS hl'
  refine lv_idiv h.1 h.2.1 hd (fun e => ?_) ?_
  · rw [z32_0, z32_eq (by omega) (by omega)] at e; omega
  · have e : Int32.ofInt x / Int32.ofInt y = Int32.ofInt (x / y) := by
      rw [z32_nat hx.1, z32_nat (Int.le_of_lt hy.1), pk_div (by omega) (by omega) (by omega), z32_nat (Int.ediv_nonneg hx.1 (Int.le_of_lt hy.1))]
      congr 1
      obtain ⟨a, rfl⟩ := Int.eq_ofNat_of_zero_le hx.1
      obtain ⟨c, rfl⟩ := Int.eq_ofNat_of_zero_le (Int.le_of_lt hy.1)
      first | (simp [← Int.natCast_ediv]; done) | rfl
    rw [e]
    exact kk H locs arr hP hD hS hl'
theorem z_irem (h : zOk Γ own b mL d) (hd : zD b pc .irem 1 q) (hx : 0 ≤ x ∧ x ≤ 2147483647) (hy : 0 < y ∧ y ≤ 2147483647) (kk : zVw Γ ws k n q ls (zi (x % y) :: st)) : zVw Γ ws k n pc ls (zi y :: zi x :: st) := by
  obtain ⟨hd, rfl⟩ := hd
  intro H locs arr hP hD hS hl'
  refine lv_irem h.1 h.2.1 hd (fun e => ?_) ?_
  · rw [z32_0, z32_eq (by omega) (by omega)] at e; omega
  · have e : Int32.ofInt x - Int32.ofInt x / Int32.ofInt y * Int32.ofInt y = Int32.ofInt (x % y) := by
      rw [z32_nat hx.1, z32_nat (Int.le_of_lt hy.1), pk_rem (by omega) (by omega) (by omega), z32_nat (Int.emod_nonneg x (by omega))]
      congr 1
      obtain ⟨a, rfl⟩ := Int.eq_ofNat_of_zero_le hx.1
      obtain ⟨c, rfl⟩ := Int.eq_ofNat_of_zero_le (Int.le_of_lt hy.1)
      simp [← Int.natCast_emod]
    rw [e]
    exact kk H locs arr hP hD hS hl'
theorem z_ldiv (h : zOk Γ own b mL d) (hd : zD b pc .ldiv 1 q) (hx : 0 ≤ x ∧ x ≤ 9223372036854775807) (hy : 0 < y ∧ y ≤ 9223372036854775807) (kk : zVw Γ ws k n q ls (zl (x / y) :: st)) : zVw Γ ws k n pc ls (zl y :: zl x :: st) := by
  obtain ⟨hd, rfl⟩ := hd
  intro H locs arr hP hD hS hl'
  refine lv_ldiv h.1 h.2.1 hd (fun e => ?_) ?_
  · rw [show (0 : Int64) = Int64.ofInt 0 by decide, z64_eq (by omega) (by omega)] at e; omega
  · have e : Int64.ofInt x / Int64.ofInt y = Int64.ofInt (x / y) := by
      rw [z64_nat hx.1, z64_nat (Int.le_of_lt hy.1), pk_lDiv (by omega) (by omega) (by omega), z64_nat (Int.ediv_nonneg hx.1 (Int.le_of_lt hy.1))]
      congr 1
      obtain ⟨a, rfl⟩ := Int.eq_ofNat_of_zero_le hx.1
      obtain ⟨c, rfl⟩ := Int.eq_ofNat_of_zero_le (Int.le_of_lt hy.1)
      first | (simp [← Int.natCast_ediv]; done) | rfl
    rw [e]
    exact kk H locs arr hP hD hS hl'
theorem z_lrem (h : zOk Γ own b mL d) (hd : zD b pc .lrem 1 q) (hx : 0 ≤ x ∧ x ≤ 9223372036854775807) (hy : 0 < y ∧ y ≤ 9223372036854775807) (kk : zVw Γ ws k n q ls (zl (x % y) :: st)) : zVw Γ ws k n pc ls (zl y :: zl x :: st) := by
  obtain ⟨hd, rfl⟩ := hd
  intro H locs arr hP hD hS hl'
  refine lv_lrem h.1 h.2.1 hd (fun e => ?_) ?_
  · rw [show (0 : Int64) = Int64.ofInt 0 by decide, z64_eq (by omega) (by omega)] at e; omega
  · have e : Int64.ofInt x - Int64.ofInt x / Int64.ofInt y * Int64.ofInt y = Int64.ofInt (x % y) := by
      rw [z64_nat hx.1, z64_nat (Int.le_of_lt hy.1), pk_lRem (by omega) (by omega) (by omega), z64_nat (Int.emod_nonneg x (by omega))]
      congr 1
      obtain ⟨a, rfl⟩ := Int.eq_ofNat_of_zero_le hx.1
      obtain ⟨c, rfl⟩ := Int.eq_ofNat_of_zero_le (Int.le_of_lt hy.1)
      simp [← Int.natCast_emod]
    rw [e]
    exact kk H locs arr hP hD hS hl'
theorem z_iand (h : zOk Γ own b mL d) (hd : zD b pc .iand 1 q) (kk : zVw Γ ws k n q ls (zi (zand x y) :: st)) : zVw Γ ws k n pc ls (zi y :: zi x :: st) := by
  obtain ⟨hd, rfl⟩ := hd
  intro H locs arr hP hD hS hl'
  refine lv_iand h.1 h.2.1 hd ?_
  rw [show (Int32.ofInt x &&& Int32.ofInt y) = Int32.ofInt (zand x y) from (z32_all _).symm]
  exact kk H locs arr hP hD hS hl'
theorem z_ior (h : zOk Γ own b mL d) (hd : zD b pc .ior 1 q) (kk : zVw Γ ws k n q ls (zi (zor x y) :: st)) : zVw Γ ws k n pc ls (zi y :: zi x :: st) := by
  obtain ⟨hd, rfl⟩ := hd
  intro H locs arr hP hD hS hl'
  refine lv_ior h.1 h.2.1 hd ?_
  rw [show (Int32.ofInt x ||| Int32.ofInt y) = Int32.ofInt (zor x y) from (z32_all _).symm]
  exact kk H locs arr hP hD hS hl'
theorem z_ixor (h : zOk Γ own b mL d) (hd : zD b pc .ixor 1 q) (kk : zVw Γ ws k n q ls (zi (zxor x y) :: st)) : zVw Γ ws k n pc ls (zi y :: zi x :: st) := by
  obtain ⟨hd, rfl⟩ := hd
  intro H locs arr hP hD hS hl'
  refine lv_ixor h.1 h.2.1 hd ?_
  rw [show (Int32.ofInt x ^^^ Int32.ofInt y) = Int32.ofInt (zxor x y) from (z32_all _).symm]
  exact kk H locs arr hP hD hS hl'
theorem z_ishl (h : zOk Γ own b mL d) (hd : zD b pc .ishl 1 q) (kk : zVw Γ ws k n q ls (zi (zshl x y) :: st)) : zVw Γ ws k n pc ls (zi y :: zi x :: st) := by
  obtain ⟨hd, rfl⟩ := hd
  intro H locs arr hP hD hS hl'
  refine lv_ishl h.1 h.2.1 hd ?_
  rw [show (Int32.ofInt x <<< (Int32.ofInt y &&& 31)) = Int32.ofInt (zshl x y) from (z32_all _).symm]
  exact kk H locs arr hP hD hS hl'
theorem z_ishr (h : zOk Γ own b mL d) (hd : zD b pc .ishr 1 q) (kk : zVw Γ ws k n q ls (zi (zshr x y) :: st)) : zVw Γ ws k n pc ls (zi y :: zi x :: st) := by
  obtain ⟨hd, rfl⟩ := hd
  intro H locs arr hP hD hS hl'
  refine lv_ishr h.1 h.2.1 hd ?_
  rw [show (Int32.ofInt x >>> (Int32.ofInt y &&& 31)) = Int32.ofInt (zshr x y) from (z32_all _).symm]
  exact kk H locs arr hP hD hS hl'
theorem z_iushr (h : zOk Γ own b mL d) (hd : zD b pc .iushr 1 q) (kk : zVw Γ ws k n q ls (zi (zushr x y) :: st)) : zVw Γ ws k n pc ls (zi y :: zi x :: st) := by
  obtain ⟨hd, rfl⟩ := hd
  intro H locs arr hP hD hS hl'
  exact lv_iushr h.1 h.2.1 hd (z32_all _).symm (kk H locs arr hP hD hS hl')
theorem z_land (h : zOk Γ own b mL d) (hd : zD b pc .land 1 q) (kk : zVw Γ ws k n q ls (zl (zland x y) :: st)) : zVw Γ ws k n pc ls (zl y :: zl x :: st) := by
  obtain ⟨hd, rfl⟩ := hd
  intro H locs arr hP hD hS hl'
  refine lv_land h.1 h.2.1 hd ?_
  rw [show (Int64.ofInt x &&& Int64.ofInt y) = Int64.ofInt (zland x y) from (Int64.ofInt_toInt _).symm]
  exact kk H locs arr hP hD hS hl'
theorem z_lor (h : zOk Γ own b mL d) (hd : zD b pc .lor 1 q) (kk : zVw Γ ws k n q ls (zl (zlor x y) :: st)) : zVw Γ ws k n pc ls (zl y :: zl x :: st) := by
  obtain ⟨hd, rfl⟩ := hd
  intro H locs arr hP hD hS hl'
  refine lv_lor h.1 h.2.1 hd ?_
  rw [show (Int64.ofInt x ||| Int64.ofInt y) = Int64.ofInt (zlor x y) from (Int64.ofInt_toInt _).symm]
  exact kk H locs arr hP hD hS hl'
theorem z_lushr (h : zOk Γ own b mL d) (hd : zD b pc .lushr 1 q) (kk : zVw Γ ws k n q ls (zl (zlushr x y) :: st)) : zVw Γ ws k n pc ls (zi y :: zl x :: st) := by
  obtain ⟨hd, rfl⟩ := hd
  intro H locs arr hP hD hS hl'
  exact lv_lushr h.1 h.2.1 hd (Int64.ofInt_toInt _).symm (kk H locs arr hP hD hS hl')
theorem z_lshl (h : zOk Γ own b mL d) (hd : zD b pc .lshl 1 q) (kk : zVw Γ ws k n q ls (zl (zlshl x y) :: st)) : zVw Γ ws k n pc ls (zi y :: zl x :: st) := by
  obtain ⟨hd, rfl⟩ := hd
  intro H locs arr hP hD hS hl'
  exact lv_lshl h.1 h.2.1 hd (Int64.ofInt_toInt _).symm (kk H locs arr hP hD hS hl')
theorem z_lshr (h : zOk Γ own b mL d) (hd : zD b pc .lshr 1 q) (kk : zVw Γ ws k n q ls (zl (zlshr x y) :: st)) : zVw Γ ws k n pc ls (zi y :: zl x :: st) := by
  obtain ⟨hd, rfl⟩ := hd
  intro H locs arr hP hD hS hl'
  exact lv_lshr h.1 h.2.1 hd (Int64.ofInt_toInt _).symm (kk H locs arr hP hD hS hl')
theorem z_i2l (h : zOk Γ own b mL d) (hd : zD b pc .i2l 1 q) (hx : -2147483648 ≤ x ∧ x ≤ 2147483647) (kk : zVw Γ ws k n q ls (zl x :: st)) : zVw Γ ws k n pc ls (zi x :: st) := by
  obtain ⟨hd, rfl⟩ := hd
  intro H locs arr hP hD hS hl'
  exact lv_i2l h.1 h.2.1 hd (by rw [z64_of (show (Int32.ofInt x).toInt64.toInt = x by rw [Int32.toInt_toInt64, z32 hx])]) (kk H locs arr hP hD hS hl')
theorem z_l2i (h : zOk Γ own b mL d) (hd : zD b pc .l2i 1 q) (kk : zVw Γ ws k n q ls (zi (zl2i x) :: st)) : zVw Γ ws k n pc ls (zl x :: st) := by
  obtain ⟨hd, rfl⟩ := hd
  intro H locs arr hP hD hS hl'
  exact lv_l2i h.1 h.2.1 hd (z32_all _).symm (kk H locs arr hP hD hS hl')
theorem z_i2b (h : zOk Γ own b mL d) (hd : zD b pc .i2b 1 q) (kk : zVw Γ ws k n q ls (zi (zi2b x) :: st)) : zVw Γ ws k n pc ls (zi x :: st) := by
  obtain ⟨hd, rfl⟩ := hd
  intro H locs arr hP hD hS hl'
  exact lv_i2b h.1 h.2.1 hd (z32_all _).symm (kk H locs arr hP hD hS hl')
theorem z_lcmp (h : zOk Γ own b mL d) (hd : zD b pc .lcmp 1 q) (hx : -9223372036854775808 ≤ x ∧ x ≤ 9223372036854775807) (hy : -9223372036854775808 ≤ y ∧ y ≤ 9223372036854775807) (kk : zVw Γ ws k n q ls (zi (zcmp x y) :: st)) : zVw Γ ws k n pc ls (zl y :: zl x :: st) := by
  obtain ⟨hd, rfl⟩ := hd
  intro H locs arr hP hD hS hl'
  refine W.lcmp h.1 h.2.1 hd ?_
  have e : lg_cmp (Int64.ofInt x) (Int64.ofInt y) = Int32.ofInt (zcmp x y) := by
    unfold lg_cmp zcmp
    by_cases h1 : y < x
    · rw [if_pos h1, if_pos ((z64_lt hy hx).mpr h1)]; rfl
    · rw [if_neg h1, if_neg (fun z => h1 ((z64_lt hy hx).mp z))]
      by_cases h2 : x = y
      · rw [if_pos h2, if_pos ((z64_eq hx hy).mpr h2)]; rfl
      · rw [if_neg h2, if_neg (fun z => h2 ((z64_eq hx hy).mp z))]; rfl
  rw [e]
  exact kk H locs arr hP hD hS hl'
theorem z_dup (h : zOk Γ own b mL d) {va : Value} (hd : zD b pc .dup 1 q) (hc : va.category = 1) (kk : zVw Γ ws k n q ls (va :: va :: st)) : zVw Γ ws k n pc ls (va :: st) := by
  obtain ⟨hd, rfl⟩ := hd
  intro H locs arr hP hD hS hl'
  exact lv_dup h.1 h.2.1 hd hc (kk H locs arr hP hD hS hl')
theorem z_dup2 (h : zOk Γ own b mL d) {va vb : Value} (hd : zD b pc .dup2 1 q) (hc : va.category = 1) (hc' : vb.category = 1) (kk : zVw Γ ws k n q ls (va :: vb :: va :: vb :: st)) : zVw Γ ws k n pc ls (va :: vb :: st) := by
  obtain ⟨hd, rfl⟩ := hd
  intro H locs arr hP hD hS hl'
  exact lv_dup2_11 h.1 h.2.1 hd hc hc' (kk H locs arr hP hD hS hl')
theorem z_pop (h : zOk Γ own b mL d) {va : Value} (hd : zD b pc .pop 1 q) (hc : va.category = 1) (kk : zVw Γ ws k n q ls st) : zVw Γ ws k n pc ls (va :: st) := by
  obtain ⟨hd, rfl⟩ := hd
  intro H locs arr hP hD hS hl'
  exact lv_pop h.1 h.2.1 hd hc (kk H locs arr hP hD hS hl')
theorem z_goto (h : zOk Γ own b mL d) (hj : zJ b pc .goto q t) (kk : zVw Γ ws k n t ls st) : zVw Γ ws k n pc ls st := by
  obtain ⟨off, hd, -, ht⟩ := hj
  intro H locs arr hP hD hS hl'
  exact lv_goto h.1 h.2.1 hd ht (kk H locs arr hP hD hS hl')
theorem z_icmp_eq (h : zOk Γ own b mL d) (hj : zJ b pc (.if_icmp .eq) q t) (hx : -2147483648 ≤ x ∧ x ≤ 2147483647) (hy : -2147483648 ≤ y ∧ y ≤ 2147483647) (kt : x = y → zVw Γ ws k n t ls st) (kf : ¬ (x = y) → zVw Γ ws k n q ls st) : zVw Γ ws k n pc ls (zi y :: zi x :: st) := by
  obtain ⟨off, hd, rfl, ht⟩ := hj
  intro H locs arr hP hD hS hl'
  exact lv_icmp_eq h.1 h.2.1 hd ht (fun e => kt ((z32_eq hx hy).mp e) H locs arr hP hD hS hl') (fun e => kf (fun z => e ((z32_eq hx hy).mpr z)) H locs arr hP hD hS hl')
theorem z_if_eq (h : zOk Γ own b mL d) (hj : zJ b pc (.ifCond .eq) q t) (hx : -2147483648 ≤ x ∧ x ≤ 2147483647) (kt : x = 0 → zVw Γ ws k n t ls st) (kf : ¬ (x = 0) → zVw Γ ws k n q ls st) : zVw Γ ws k n pc ls (zi x :: st) := by
  obtain ⟨off, hd, rfl, ht⟩ := hj
  intro H locs arr hP hD hS hl'
  exact lv_if_eq h.1 h.2.1 hd ht (fun e => kt ((z32_eq hx (show -2147483648 ≤ (0 : Int) ∧ (0 : Int) ≤ 2147483647 by omega)).mp e) H locs arr hP hD hS hl') (fun e => kf (fun z => e ((z32_eq hx (show -2147483648 ≤ (0 : Int) ∧ (0 : Int) ≤ 2147483647 by omega)).mpr z)) H locs arr hP hD hS hl')
theorem z_icmp_ne (h : zOk Γ own b mL d) (hj : zJ b pc (.if_icmp .ne) q t) (hx : -2147483648 ≤ x ∧ x ≤ 2147483647) (hy : -2147483648 ≤ y ∧ y ≤ 2147483647) (kt : x ≠ y → zVw Γ ws k n t ls st) (kf : x = y → zVw Γ ws k n q ls st) : zVw Γ ws k n pc ls (zi y :: zi x :: st) := by
  obtain ⟨off, hd, rfl, ht⟩ := hj
  intro H locs arr hP hD hS hl'
  exact lv_icmp_ne h.1 h.2.1 hd ht (fun e => kt ((not_congr (z32_eq hx hy)).mp e) H locs arr hP hD hS hl') (fun e => kf ((z32_eq hx hy).mp e) H locs arr hP hD hS hl')
theorem z_if_ne (h : zOk Γ own b mL d) (hj : zJ b pc (.ifCond .ne) q t) (hx : -2147483648 ≤ x ∧ x ≤ 2147483647) (kt : x ≠ 0 → zVw Γ ws k n t ls st) (kf : x = 0 → zVw Γ ws k n q ls st) : zVw Γ ws k n pc ls (zi x :: st) := by
  obtain ⟨off, hd, rfl, ht⟩ := hj
  intro H locs arr hP hD hS hl'
  exact lv_if_ne h.1 h.2.1 hd ht (fun e => kt ((not_congr (z32_eq hx (show -2147483648 ≤ (0 : Int) ∧ (0 : Int) ≤ 2147483647 by omega))).mp e) H locs arr hP hD hS hl') (fun e => kf ((z32_eq hx (show -2147483648 ≤ (0 : Int) ∧ (0 : Int) ≤ 2147483647 by omega)).mp e) H locs arr hP hD hS hl')
theorem z_icmp_lt (h : zOk Γ own b mL d) (hj : zJ b pc (.if_icmp .lt) q t) (hx : -2147483648 ≤ x ∧ x ≤ 2147483647) (hy : -2147483648 ≤ y ∧ y ≤ 2147483647) (kt : x < y → zVw Γ ws k n t ls st) (kf : ¬ (x < y) → zVw Γ ws k n q ls st) : zVw Γ ws k n pc ls (zi y :: zi x :: st) := by
  obtain ⟨off, hd, rfl, ht⟩ := hj
  intro H locs arr hP hD hS hl'
  exact lv_icmp_lt h.1 h.2.1 hd ht (fun e => kt ((z32_lt hx hy).mp e) H locs arr hP hD hS hl') (fun e => kf (fun z => e ((z32_lt hx hy).mpr z)) H locs arr hP hD hS hl')
theorem z_if_lt (h : zOk Γ own b mL d) (hj : zJ b pc (.ifCond .lt) q t) (hx : -2147483648 ≤ x ∧ x ≤ 2147483647) (kt : x < 0 → zVw Γ ws k n t ls st) (kf : ¬ (x < 0) → zVw Γ ws k n q ls st) : zVw Γ ws k n pc ls (zi x :: st) := by
  obtain ⟨off, hd, rfl, ht⟩ := hj
  intro H locs arr hP hD hS hl'
  exact lv_if_lt h.1 h.2.1 hd ht (fun e => kt ((z32_lt hx (show -2147483648 ≤ (0 : Int) ∧ (0 : Int) ≤ 2147483647 by omega)).mp e) H locs arr hP hD hS hl') (fun e => kf (fun z => e ((z32_lt hx (show -2147483648 ≤ (0 : Int) ∧ (0 : Int) ≤ 2147483647 by omega)).mpr z)) H locs arr hP hD hS hl')
theorem z_icmp_ge (h : zOk Γ own b mL d) (hj : zJ b pc (.if_icmp .ge) q t) (hx : -2147483648 ≤ x ∧ x ≤ 2147483647) (hy : -2147483648 ≤ y ∧ y ≤ 2147483647) (kt : y ≤ x → zVw Γ ws k n t ls st) (kf : ¬ (y ≤ x) → zVw Γ ws k n q ls st) : zVw Γ ws k n pc ls (zi y :: zi x :: st) := by
  obtain ⟨off, hd, rfl, ht⟩ := hj
  intro H locs arr hP hD hS hl'
  exact lv_icmp_ge h.1 h.2.1 hd ht (fun e => kt ((z32_le hy hx).mp e) H locs arr hP hD hS hl') (fun e => kf (fun z => e ((z32_le hy hx).mpr z)) H locs arr hP hD hS hl')
theorem z_if_ge (h : zOk Γ own b mL d) (hj : zJ b pc (.ifCond .ge) q t) (hx : -2147483648 ≤ x ∧ x ≤ 2147483647) (kt : 0 ≤ x → zVw Γ ws k n t ls st) (kf : ¬ (0 ≤ x) → zVw Γ ws k n q ls st) : zVw Γ ws k n pc ls (zi x :: st) := by
  obtain ⟨off, hd, rfl, ht⟩ := hj
  intro H locs arr hP hD hS hl'
  exact lv_if_ge h.1 h.2.1 hd ht (fun e => kt ((z32_le (show -2147483648 ≤ (0 : Int) ∧ (0 : Int) ≤ 2147483647 by omega) hx).mp e) H locs arr hP hD hS hl') (fun e => kf (fun z => e ((z32_le (show -2147483648 ≤ (0 : Int) ∧ (0 : Int) ≤ 2147483647 by omega) hx).mpr z)) H locs arr hP hD hS hl')
theorem z_icmp_gt (h : zOk Γ own b mL d) (hj : zJ b pc (.if_icmp .gt) q t) (hx : -2147483648 ≤ x ∧ x ≤ 2147483647) (hy : -2147483648 ≤ y ∧ y ≤ 2147483647) (kt : y < x → zVw Γ ws k n t ls st) (kf : ¬ (y < x) → zVw Γ ws k n q ls st) : zVw Γ ws k n pc ls (zi y :: zi x :: st) := by
  obtain ⟨off, hd, rfl, ht⟩ := hj
  intro H locs arr hP hD hS hl'
  exact lv_icmp_gt h.1 h.2.1 hd ht (fun e => kt ((z32_lt hy hx).mp e) H locs arr hP hD hS hl') (fun e => kf (fun z => e ((z32_lt hy hx).mpr z)) H locs arr hP hD hS hl')
theorem z_if_gt (h : zOk Γ own b mL d) (hj : zJ b pc (.ifCond .gt) q t) (hx : -2147483648 ≤ x ∧ x ≤ 2147483647) (kt : 0 < x → zVw Γ ws k n t ls st) (kf : ¬ (0 < x) → zVw Γ ws k n q ls st) : zVw Γ ws k n pc ls (zi x :: st) := by
  obtain ⟨off, hd, rfl, ht⟩ := hj
  intro H locs arr hP hD hS hl'
  exact lv_if_gt h.1 h.2.1 hd ht (fun e => kt ((z32_lt (show -2147483648 ≤ (0 : Int) ∧ (0 : Int) ≤ 2147483647 by omega) hx).mp e) H locs arr hP hD hS hl') (fun e => kf (fun z => e ((z32_lt (show -2147483648 ≤ (0 : Int) ∧ (0 : Int) ≤ 2147483647 by omega) hx).mpr z)) H locs arr hP hD hS hl')
theorem z_icmp_le (h : zOk Γ own b mL d) (hj : zJ b pc (.if_icmp .le) q t) (hx : -2147483648 ≤ x ∧ x ≤ 2147483647) (hy : -2147483648 ≤ y ∧ y ≤ 2147483647) (kt : x ≤ y → zVw Γ ws k n t ls st) (kf : ¬ (x ≤ y) → zVw Γ ws k n q ls st) : zVw Γ ws k n pc ls (zi y :: zi x :: st) := by
  obtain ⟨off, hd, rfl, ht⟩ := hj
  intro H locs arr hP hD hS hl'
  exact lv_icmp_le h.1 h.2.1 hd ht (fun e => kt ((z32_le hx hy).mp e) H locs arr hP hD hS hl') (fun e => kf (fun z => e ((z32_le hx hy).mpr z)) H locs arr hP hD hS hl')
theorem z_if_le (h : zOk Γ own b mL d) (hj : zJ b pc (.ifCond .le) q t) (hx : -2147483648 ≤ x ∧ x ≤ 2147483647) (kt : x ≤ 0 → zVw Γ ws k n t ls st) (kf : ¬ (x ≤ 0) → zVw Γ ws k n q ls st) : zVw Γ ws k n pc ls (zi x :: st) := by
  obtain ⟨off, hd, rfl, ht⟩ := hj
  intro H locs arr hP hD hS hl'
  exact lv_if_le h.1 h.2.1 hd ht (fun e => kt ((z32_le hx (show -2147483648 ≤ (0 : Int) ∧ (0 : Int) ≤ 2147483647 by omega)).mp e) H locs arr hP hD hS hl') (fun e => kf (fun z => e ((z32_le hx (show -2147483648 ≤ (0 : Int) ∧ (0 : Int) ≤ 2147483647 by omega)).mpr z)) H locs arr hP hD hS hl')
theorem z_tabOut (h : zOk Γ own b mL d) {dflt lo hi : Int} {offs : Array Int} {len : Nat} (hd : zD b pc (.tableswitch dflt lo hi offs) len q) (hx : -2147483648 ≤ x ∧ x ≤ 2147483647) (ho : x < lo ∨ hi < x) (ht : (pc : Int) + dflt = (t : Int)) (kk : zVw Γ ws k n t ls st) : zVw Γ ws k n pc ls (zi x :: st) := by
  obtain ⟨hd, -⟩ := hd
  intro H locs arr hP hD hS hl'
  exact lv_tableOut h.1 h.2.1 hd (by rw [z32 hx]; exact ho) ht (kk H locs arr hP hD hS hl')
theorem z_tabIn (h : zOk Γ own b mL d) {dflt lo hi off : Int} {offs : Array Int} {len : Nat} (v : Int) (hd : zD b pc (.tableswitch dflt lo hi offs) len q) (hx : x = v) (hv : -2147483648 ≤ v ∧ v ≤ 2147483647 ∧ lo ≤ v ∧ v ≤ hi) (ho : offs[(v - lo).toNat]? = some off) (ht : (pc : Int) + off = (t : Int)) (kk : zVw Γ ws k n t ls st) : zVw Γ ws k n pc ls (zi x :: st) := by
  obtain ⟨hd, -⟩ := hd
  intro H locs arr hP hD hS hl'
  subst hx
  exact lv_tableIn h.1 h.2.1 hd (by rw [z32 ⟨hv.1, hv.2.1⟩]; omega) (by rw [z32 ⟨hv.1, hv.2.1⟩]; omega) (by rw [z32 ⟨hv.1, hv.2.1⟩]; exact ho) ht (kk H locs arr hP hD hS hl')
end ZR
