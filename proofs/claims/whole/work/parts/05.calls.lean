/-! ===== contracts, calls, returns ===== -/
def zPic (w : zW) (σ : zM) (U : State) : Prop := va_P w.1 vwCl (zwl w σ) U.heap ∧ va_K w.1 vwCl (zty w) U ∧ va_D (fun _ => True) (zwl w σ)
def zQc (w : zW) (P : Option Value → zM → Prop) (A : Nat → Prop) : Array Value → State → Outcome → State → Prop := fun _ st oc t => (∃ (r : Option Value) (σ' : zM), oc = .returned r ∧ P r σ' ∧ zPic w σ' t) ∧ va_F A st t
/-- a method: its name, code, locals, type, depth of calls -/
abbrev zQ6 : Type := MethodName × ByteArray × Nat × Option FieldType × Nat
/-- called with args on the memory σ, the method returns, with an answer and a memory as P says -/
def zCT (m : zQ6) (args : zW → List Value) (σ : zM) (P : Option Value → zM → Prop) : Prop := ∀ (l : Launch) (w : zW) (sz : Nat), Met l m.1 (Cond.code m.1 m.2.1 m.2.2.1 m.2.2.2.1 :: zAL) { frames := m.2.2.2.2, cells := 0, slots := 0, locals := 36 * m.2.2.2.2 } (va_Pc (args w) (fun U => U.heap.size = sz ∧ zPic w σ U)) (zQc w P (va_A (zwl w σ) sz)) 0 0 (va_A (zwl w σ) sz)
def zCi (m : zQ6) (args : zW → List Value) (σ : zM) (P : Int → zM → Prop) : Prop := zCT m args σ (fun r σ' => ∃ v, r = some (zi v) ∧ P v σ')
def zCl (m : zQ6) (args : zW → List Value) (σ : zM) (P : Int → zM → Prop) : Prop := zCT m args σ (fun r σ' => ∃ v, r = some (zl v) ∧ P v σ')
def zCv (m : zQ6) (args : zW → List Value) (σ : zM) (P : zM → Prop) : Prop := zCT m args σ (fun r σ' => r = none ∧ P σ')
/-- what a return needs -/
def zRt (Γ : zG) (ret : Option FieldType) (P : Option Value → zM → Prop) : Prop := (zmt Γ).sig.returnType = ret ∧ zQ Γ = MQ (zbl Γ) (zQc (zw Γ) P (zA Γ)) (za Γ) (zs Γ) 0 0 (zA Γ)
theorem zAl_addr (w : zW) (σ τ : zM) : ∀ (L : List zL) (c0 : Nat) (k a : Nat), (∃ e, (zws w σ c0 L)[k]? = some (a, e)) → ∃ e, (zws w τ c0 L)[k]? = some (a, e)
  | [], _, k, a, h => by obtain ⟨e, h⟩ := h; simp [zws] at h
  | g :: t, c0, 0, a, h => by
    obtain ⟨e, h⟩ := h
    simp only [zws, List.getElem?_cons_zero, Option.some.injEq, Prod.mk.injEq] at h ⊢
    exact ⟨_, h.1, rfl⟩
  | g :: t, c0, k + 1, a, h => by
    simp only [zws, List.getElem?_cons_succ] at h ⊢
    exact zAl_addr w σ τ t (c0 + 1) k a h
theorem zAl_A (w : zW) (σ τ : zM) {a : Nat} {k : Nat} {e : va_E} (h : (zwl w σ)[k]? = some (a, e)) : ∃ e', (zwl w τ)[k]? = some (a, e') := zAl_addr w σ τ zlay 0 k a ⟨e, h⟩
theorem zAl_D {A B : Nat → Prop} (w : zW) (σ τ : zM) (h : va_D A (zwl w σ)) (hB : ∀ (k : Nat) (q : Nat × va_E), (zwl w τ)[k]? = some q → B q.1) : va_D B (zwl w τ) := by
  refine ⟨fun i j x y hi hj hxy => ?_, hB⟩
  obtain ⟨e1, h1⟩ := zAl_A w τ σ (a := x.1) (e := x.2) hi
  obtain ⟨e2, h2⟩ := zAl_A w τ σ (a := y.1) (e := y.2) hj
  exact h.1 i j _ _ h1 h2 hxy
theorem zCT_mk {own : String} {m : zQ6} {args : zW → List Value} {σ : zM} {P : Option Value → zM → Prop} (hown : m.1.cls = own) (hy : plainName own = true) (ls : zW → List (Option Value)) (hls : ∀ w, zas 0 (ls w) = lv_args 0 (args w)) (hlen : ∀ w, (lg_sl (args w)).length ≤ m.2.2.1)
    (body : ∀ Γ, zOk Γ own m.2.1 m.2.2.1 m.2.2.2.2 → zRt Γ m.2.2.2.1 P → zV Γ σ 0 (ls (zw Γ)) []) : zCT m args σ P := by
  intro l w sz
  subst hown
  refine Met.ofW (cc := m.2.1) (maxL := m.2.2.1) (ret := m.2.2.2.1) hy rfl ?_
  intro p e s mi args' below meth c s₁ B hml hv
  obtain ⟨rfl, hsz, hP, hK, hD0⟩ := hv
  have hts := atoms_spec (ws := Cond.code m.1 m.2.1 m.2.2.1 m.2.2.2.1 :: zAL) B.pre
  subst hsz
  have hD := hD0.self (sz := s.heap.size)
  have hl := lv_entry (args w) (n := m.2.2.1) (hlen w)
  rw [lg_entry_eq]
  have hbody := body ((p, l, e, ({ frames := m.2.2.2.2, cells := 0, slots := 0, locals := 36 * m.2.2.2.2 } : Room), s, mi, (args w).toArray, below, meth, c), w, va_A (zwl w σ) s.heap.size, MQ below (zQc w P (va_A (zwl w σ) s.heap.size)) (args w).toArray s 0 0 (va_A (zwl w σ) s.heap.size))
    ⟨B.exec, B.bytes, hml, findClass_of_methodNamed B.named, fun w h => hts w (List.mem_cons_of_mem _ h), hK, fun q h => Or.inr h, ⟨Nat.le_refl _, Nat.le_refl _⟩, B.notSynchronized⟩ ⟨B.returns, rfl⟩
  refine hbody s.heap [] _ hP hD va_S.rf ?_
  show lv_has _ c.maxLocals _
  rw [hml, hls w]
  exact hl
section ZC
variable {Γ : zG} {own : String} {b : ByteArray} {mL d : Nat} {σ : zM} {k n : Nat} {pc q t : Nat} {ls : List (Option Value)} {st rest : List Value} {x y : Int} {c ci idx j : Nat} {fs : List zF} {P : Option Value → zM → Prop}
theorem zRt_end (h : zOk Γ own b mL d) {ret : Option FieldType} {H : Heap} {locs : List Loc} (hP : va_P (zw Γ).1 vwCl (zwl (zw Γ) σ) H) (hD : va_D (zA Γ) (zwl (zw Γ) σ)) (hS : va_S (zA Γ) (zs Γ).heap H locs) {r : Option Value} (hp : P r σ) : ∀ t : State, t.heap = H → (zs Γ).WarmedH t.vm → zQc (zw Γ) P (zA Γ) (za Γ) (zs Γ) (.returned r) t := by
  intro t ht hW
  exact ⟨⟨r, σ, rfl, hp, by rw [ht]; exact hP, va_K.moved hW.alike h.2.2.2.2.2.1, hD.weaken (fun _ _ _ _ => trivial)⟩, hS.F ht⟩
theorem z_iret (h : zOk Γ own b mL d) (hr : zRt Γ (some .int) P) (hd : zD b pc .ireturn 1 q) (hp : P (some (zi x)) σ) : zV Γ σ pc ls [zi x] := by
  obtain ⟨hd, -⟩ := hd
  intro H locs arr hP hD hS hl'
  show W _ _ _ _ _ _ _ _ _ _ _ _ _ _ (zQ Γ) _
  rw [hr.2]
  exact W.iret h.1 h.2.1 hr.1 (zRt_end (ret := some .int) h hP hD hS hp) hS.2.2 hd h.2.2.2.2.2.2.2.2
theorem z_zret (h : zOk Γ own b mL d) (hr : zRt Γ (some .boolean) P) (hd : zD b pc .ireturn 1 q) (hx : x = 0 ∨ x = 1) (hp : P (some (zi x)) σ) : zV Γ σ pc ls [zi x] := by
  obtain ⟨hd, -⟩ := hd
  intro H locs arr hP hD hS hl'
  show W _ _ _ _ _ _ _ _ _ _ _ _ _ _ (zQ Γ) _
  rw [hr.2]
  exact W.zret h.1 h.2.1 hr.1 (by rcases hx with rfl | rfl <;> rfl) (zRt_end (ret := some .boolean) h hP hD hS hp) hS.2.2 hd h.2.2.2.2.2.2.2.2
theorem z_lret (h : zOk Γ own b mL d) (hr : zRt Γ (some .long) P) (hd : zD b pc .lreturn 1 q) (hp : P (some (zl x)) σ) : zV Γ σ pc ls [zl x] := by
  obtain ⟨hd, -⟩ := hd
  intro H locs arr hP hD hS hl'
  show W _ _ _ _ _ _ _ _ _ _ _ _ _ _ (zQ Γ) _
  rw [hr.2]
  exact W.lret h.1 h.2.1 hr.1 (zRt_end (ret := some .long) h hP hD hS hp) hS.2.2 hd h.2.2.2.2.2.2.2.2
theorem z_vret (h : zOk Γ own b mL d) (hr : zRt Γ none P) (hd : zD b pc .return_ 1 q) (hp : P none σ) : zV Γ σ pc ls [] := by
  obtain ⟨hd, -⟩ := hd
  intro H locs arr hP hD hS hl'
  show W _ _ _ _ _ _ _ _ _ _ _ _ _ _ (zQ Γ) _
  rw [hr.2]
  exact W.vret h.1 h.2.1 hr.1 (zRt_end (ret := none) h hP hD hS hp) hS.2.2 hd h.2.2.2.2.2.2.2.2
/-- what a call's pool entry says -/
def zMl (own : String) (idx : Nat) (m : zQ6) (np : Nat) : Prop := Cond.methodLink own idx m.1 ∈ zAL ∧ Cond.initialized m.1.cls ∈ zAL ∧ Cond.code m.1 m.2.1 m.2.2.1 m.2.2.2.1 ∈ zAL ∧ (m.1.cls ≠ "java/lang/invoke/MethodHandle" ∧ m.1.cls ≠ "java/lang/invoke/VarHandle" ∧ (parseMethodDescriptor m.1.desc).map (fun d => d.parameters.length) = some np) ∧ m.2.2.1 ≤ 17
def zMv (m : zQ6) : Prop := Cond.instanceMethod m.1 ∈ zAL ∧ Cond.selects m.1.cls m.1 m.1 ∈ zAL
theorem zAL_good : ∀ w ∈ zAL, w ∈ zAL ∧ ((w.onTables && w.keeps) = true ∨ ∃ ty, w = .arrayClass ty) := fun w h => ⟨h, good_of_word (List.mem_filter.mp h).2⟩
theorem zRunEnd {m : zQ6} {args : zW → List Value} {g : JFrame} {H : Heap} {locs : List Loc} (hS : va_S (zA Γ) (zs Γ).heap H locs) (hD : va_D (zA Γ) (zwl (zw Γ) σ)) (h : zOk Γ own b mL d)
    (hr : va_Run (zp Γ) (zln Γ) (zen Γ) (zRm Γ) (zs Γ) (zmi Γ) (za Γ) (zbl Γ) (zmt Γ) (zcd Γ) H locs k n 0 0 (F0 (zmi Γ) pc g.locals st) rest (zQc (zw Γ) P (va_A (zwl (zw Γ) σ) H.size) (args (zw Γ)).toArray) (va_A (zwl (zw Γ) σ) H.size)) (hl : zlok (zcd Γ).maxLocals g.locals ls)
    (kk : ∀ (r : Option Value) (σ' : zM), P r σ' → zVw Γ (zwl (zw Γ) σ') k n (pc + 3) ls (r.toList ++ rest)) : zWW Γ H locs k n (F0 (zmi Γ) pc g.locals st) := by
  intro T hT X
  obtain ⟨v, st₀, t, T', L, h0, X', hL, e1, e2, ⟨⟨r, σ', hv, hp, hP1, hK1, hD1⟩, hz, hk⟩, hst⟩ := hr T hT X
  cases hv
  rw [h0] at hz hk
  have hAq : ∀ q, va_A (zwl (zw Γ) σ) H.size q → zA Γ q := by
    intro q hq
    rcases hq with ⟨j, e, hj⟩ | hq
    · exact hD.2 j (q, e) hj
    · exact h.2.2.2.2.2.2.1 q (Nat.le_trans hS.1 hq)
  have hS1 : va_S (zA Γ) (zs Γ).heap T'.heap (locs ++ L) := ⟨Nat.le_trans hS.1 (by rw [e1]; exact hz), fun q h1 h2 => by
      rw [e1, hk q (Nat.lt_of_lt_of_le h1 hS.1) (fun z => h2 (hAq q z))]; exact hS.2.1 q h1 h2, fun q hq => by
      rcases List.mem_append.mp hq with h | h
      · exact hS.2.2 q h
      · exact hAq _ (hL q h)⟩
  have hD2 : va_D (zA Γ) (zwl (zw Γ) σ') := zAl_D (zw Γ) σ σ' hD (fun j q hq => by
    obtain ⟨e', he⟩ := zAl_A (zw Γ) σ' σ (a := q.1) (e := q.2) hq
    exact hD.2 j (q.1, e') he)
  obtain ⟨t2, a1, b1⟩ := kk v σ' hp T'.heap (locs ++ L) g.locals (by rw [e1]; exact hP1) hD2 hS1 hl T' rfl X'
  exact ⟨t2, hst t2 a1, b1⟩
theorem z_callV (h : zOk Γ own b mL d) {m : zQ6} {np : Nat} {args : zW → List Value} {As : List Value} (hd : zD b pc (.invokevirtual idx) 3 q) (hm : zMl own idx m np) (hv : zMv m) (hci : (vwCl[ci]?).map (fun r => r.1) = some m.1.cls) (hc : zlay[c]? = some (.inl (ci, fs))) (hM : zCT m args σ P)
    (ha : args (zw Γ) = zr (zw Γ) c :: As) (hn : As.length = np) (hst : st = As.reverse ++ zr (zw Γ) c :: rest) (hrest : (rest.map fun v => v.category).sum ≤ 8) (hdd : m.2.2.2.2 + 1 ≤ d) (hk : k ≤ (zRm Γ).cells ∧ n ≤ (zRm Γ).slots)
    (kk : ∀ (r : Option Value) (σ' : zM), P r σ' → zVw Γ (zwl (zw Γ) σ') k n q ls (r.toList ++ rest)) : zVw Γ (zwl (zw Γ) σ) k n pc ls st := by
  obtain ⟨hd, rfl⟩ := hd
  obtain ⟨m1, m2, m3, m4, m5⟩ := hm
  intro H locs arr hP hD hS hl'
  have h8 := h.2.2.2.2.2.2.2.1
  have hT : GoodIn zAL (wsV own idx m.1.cls m.1 (Cond.code m.1 m.2.1 m.2.2.1 m.2.2.2.1 :: zAL)) := by
    intro w hw
    apply zAL_good
    simp only [wsV, List.cons_append, List.nil_append, List.mem_cons] at hw
    rcases hw with rfl | rfl | rfl | rfl | rfl | hw
    · exact m1
    · exact hv.1
    · exact hv.2
    · exact m2
    · exact m3
    · exact hw
  obtain ⟨qc, hq1, hq2⟩ : ∃ qc, vwCl[ci]? = some qc ∧ qc.1 = m.1.cls := by
    cases hx : vwCl[ci]? with
    | none => rw [hx] at hci; cases hci
    | some y => rw [hx] at hci; exact ⟨y, rfl, Option.some.inj hci⟩
  refine zRunEnd (m := m) (args := args) (g := F0 (zmi Γ) pc arr st) hS hD h ?_ hl' kk
  rw [ha]
  refine va_runV (As := As) (rest := rest) (b := (zw Γ).2.2 c) ⟨h.1, h.2.1, h.2.2.1, h.2.2.2.1, h.2.2.2.2.1⟩ (hM (zln Γ) (zw Γ) H.size) (cwV np h.2.2.2.2.1 hT rfl rfl rfl ⟨rfl, m4⟩ ⟨Nat.le_trans hdd h8.1, ?_⟩) ⟨?_, ?_, ?_⟩ rfl hn ?_ hst (lv_room hrest) hd ⟨by simpa using hk.1, by simpa using hk.2⟩
  · show 8 + (m.2.2.1 + 11) + 36 * m.2.2.2.2 ≤ _
    omega
  · intro a U g mk hp
    obtain ⟨e1, e2, qP, qK, qD⟩ := hp
    exact ⟨e1, e2, qP, va_K.moved (u := U) (U := U.calling g mk a) (Vm.Alike.refl U.vm) qK, qD⟩
  · rw [← hq2]
    exact va_recv h.2.2.2.2.2.1 hP hq1 (zwl_at (zw Γ) σ hc)
  · intro U hU hW
    exact ⟨by rw [ha]; rfl, by rw [hU], by rw [hU]; exact hP, va_K.moved hW.alike h.2.2.2.2.2.1, hD.weaken (fun _ _ _ _ => trivial)⟩
  · show arr.size = mL
    rw [← h.2.2.1]
    exact hl'.1
theorem z_callS (h : zOk Γ own b mL d) {m : zQ6} {np : Nat} {args : zW → List Value} {As : List Value} (hd : zD b pc (.invokestatic idx) 3 q) (hm : zMl own idx m np) (hv : Cond.static m.1 ∈ zAL) (hM : zCT m args σ P)
    (ha : args (zw Γ) = As) (hn : As.length = np) (hst : st = As.reverse ++ rest) (hrest : (rest.map fun v => v.category).sum ≤ 8) (hdd : m.2.2.2.2 + 1 ≤ d) (hk : k ≤ (zRm Γ).cells ∧ n ≤ (zRm Γ).slots)
    (kk : ∀ (r : Option Value) (σ' : zM), P r σ' → zVw Γ (zwl (zw Γ) σ') k n q ls (r.toList ++ rest)) : zVw Γ (zwl (zw Γ) σ) k n pc ls st := by
  obtain ⟨hd, rfl⟩ := hd
  obtain ⟨m1, m2, m3, m4, m5⟩ := hm
  intro H locs arr hP hD hS hl'
  have h8 := h.2.2.2.2.2.2.2.1
  have hT : GoodIn zAL (va_wsS own idx m.1 (Cond.code m.1 m.2.1 m.2.2.1 m.2.2.2.1 :: zAL)) := by
    intro w hw
    apply zAL_good
    simp only [va_wsS, List.cons_append, List.nil_append, List.mem_cons] at hw
    rcases hw with rfl | rfl | rfl | rfl | hw
    · exact m1
    · exact hv
    · exact m2
    · exact m3
    · exact hw
  refine zRunEnd (m := m) (args := args) (g := F0 (zmi Γ) pc arr st) hS hD h ?_ hl' kk
  rw [ha]
  refine va_runS (As := As) (rest := rest) ⟨h.1, h.2.1, h.2.2.1, h.2.2.2.1, h.2.2.2.2.1⟩ (hM (zln Γ) (zw Γ) H.size) (va_cwS np h.2.2.2.2.1 hT rfl rfl rfl m4 ⟨Nat.le_trans hdd h8.1, ?_⟩) ⟨?_, ?_⟩ rfl hn ?_ hst (lv_room hrest) hd ⟨by simpa using hk.1, by simpa using hk.2⟩
  · show 8 + (m.2.2.1 + 11) + 36 * m.2.2.2.2 ≤ _
    omega
  · intro a U g mk hp
    obtain ⟨e1, e2, qP, qK, qD⟩ := hp
    exact ⟨e1, e2, qP, va_K.moved (u := U) (U := U.calling g mk a) (Vm.Alike.refl U.vm) qK, qD⟩
  · intro U hU hW
    exact ⟨by rw [ha], by rw [hU], by rw [hU]; exact hP, va_K.moved hW.alike h.2.2.2.2.2.1, hD.weaken (fun _ _ _ _ => trivial)⟩
  · show arr.size = mL
    rw [← h.2.2.1]
    exact hl'.1
end ZC
