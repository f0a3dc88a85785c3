/-! ===== growing worlds ===== -/
def zN1 : Cond := .methodLinkNest RX4 26 yX0_init RX7
def zN2 : Cond := .methodLinkNest RX5 11 yX1_init RX7
def zN3 : Cond := .methodLinkNest RX7 9 yX6_init RX7
def zN4 : Cond := .methodLinkNest RX7 18 yX5_init RX7
def zN5 : Cond := .methodLinkNest RX7 30 yX3_init RX7
def zN6 : Cond := .methodLinkNest RX7 37 yX2_init RX7
def zN7 : Cond := .methodLinkNest RX7 44 yX0_init RX7
def zNw (U : State) : Prop := va_AO RX0 U ∧ va_Nw zN1 U ∧ va_Nw zN2 U ∧ va_Nw zN3 U ∧ va_Nw zN4 U ∧ va_Nw zN5 U ∧ va_Nw zN6 U ∧ va_Nw zN7 U
theorem zNw_warm {s U : State} (hW : s.WarmedH U.vm) (h : zNw s) : zNw U := ⟨h.1.moved hW.alike, va_Nw.warmM hW h.2.1, va_Nw.warmM hW h.2.2.1, va_Nw.warmM hW h.2.2.2.1, va_Nw.warmM hW h.2.2.2.2.1, va_Nw.warmM hW h.2.2.2.2.2.1, va_Nw.warmM hW h.2.2.2.2.2.2.1, va_Nw.warmM hW h.2.2.2.2.2.2.2⟩
theorem zNw_calling {U : State} {g : JFrame} {mk : MethodId} {a : Array Value} (h : zNw U) (e : (U.calling g mk a).vm = U.vm) : zNw (U.calling g mk a) := ⟨h.1.moved (u := U) (U := U.calling g mk a) (Vm.Alike.refl U.vm), va_Nw.same rfl e.symm h.2.1, va_Nw.same rfl e.symm h.2.2.1, va_Nw.same rfl e.symm h.2.2.2.1, va_Nw.same rfl e.symm h.2.2.2.2.1, va_Nw.same rfl e.symm h.2.2.2.2.2.1, va_Nw.same rfl e.symm h.2.2.2.2.2.2.1, va_Nw.same rfl e.symm h.2.2.2.2.2.2.2⟩
abbrev eO (a ci : Nat) (vs : List Value) : Nat × va_E := (a, .inr (ci, vs))
abbrev eI (w : zW) (a ty n : Nat) (f : Nat → Int32) : Nat × va_E := (a, .inl (w.2.1 ty, n, .inl f))
abbrev eJ (w : zW) (a n : Nat) (f : Nat → Int64) : Nat × va_E := (a, .inl (w.2.1 2, n, .inr (.inl f)))
abbrev eR (w : zW) (a n : Nat) (f : Nat → Option Nat) : Nat × va_E := (a, .inl (w.2.1 4, n, .inr (.inr (.inr (.inr f)))))
theorem uAt {w0 L : va_W} {i : Nat} {x : Nat × va_E} (h : L[i]? = some x) : (w0 ++ L)[w0.length + i]? = some x := by
  rw [List.getElem?_append_right (by omega), Nat.add_sub_cancel_left]
  exact h
theorem uSet {w0 L : va_W} {i : Nat} {x : Nat × va_E} : (w0 ++ L).set (w0.length + i) x = w0 ++ L.set i x := by
  rw [List.set_append_right _ _ (by omega), Nat.add_sub_cancel_left]
/-- a world's cells in another order -/
theorem va_P_perm {D : va_G} {cl : List vw_C} {ws ws' : va_W} {H : Heap} (hp : ws.Perm ws') (h : va_P D cl ws H) : va_P D cl ws' H := by
  intro k q hq
  have hm : q ∈ ws := hp.mem_iff.mpr (List.mem_of_getElem? hq)
  obtain ⟨j, hj⟩ := List.getElem?_of_mem hm
  exact h j q hj
theorem va_D_pw {A : Nat → Prop} {ws : va_W} : va_D A ws ↔ ws.Pairwise (fun p q => p.1 ≠ q.1) ∧ ∀ q ∈ ws, A q.1 := by
  constructor
  · intro h
    refine ⟨?_, fun q hq => ?_⟩
    · rw [List.pairwise_iff_getElem]
      intro i j hi hj hij he
      have := h.1 i j _ _ (List.getElem?_eq_getElem hi) (List.getElem?_eq_getElem hj) he
      omega
    · obtain ⟨j, hj⟩ := List.getElem?_of_mem hq
      exact h.2 j q hj
  · intro h
    refine ⟨fun i j p q hp hq he => ?_, fun k q hq => h.2 q (List.mem_of_getElem? hq)⟩
    obtain ⟨hi, hi'⟩ := List.getElem?_eq_some_iff.mp hp
    obtain ⟨hj, hj'⟩ := List.getElem?_eq_some_iff.mp hq
    have hw := List.pairwise_iff_getElem.mp h.1
    rcases Nat.lt_trichotomy i j with hlt | heq | hgt
    · exact absurd (by rw [hi', hj']; exact he) (hw i j hi hj hlt)
    · exact heq
    · exact absurd (by rw [hi', hj']; exact he.symm) (hw j i hj hi hgt)
theorem va_D_perm {A : Nat → Prop} {ws ws' : va_W} (hp : ws.Perm ws') (h : va_D A ws) : va_D A ws' := by
  rw [va_D_pw] at h ⊢
  exact ⟨hp.pairwise h.1 (fun hxy => Ne.symm hxy), fun q hq => h.2 q (hp.mem_iff.mpr hq)⟩
/-- contracts over a world of cells -/
def zKp (w : zW) (ws : va_W) (U : State) : Prop := va_P w.1 vwCl ws U.heap ∧ va_K w.1 vwCl (zty w) U ∧ va_D (fun _ => True) ws ∧ zNw U
def zKQ (w : zW) (P : Option Value → va_W → Prop) (A : Nat → Prop) : Array Value → State → Outcome → State → Prop := fun _ st oc t => (∃ (r : Option Value) (ws' : va_W), oc = .returned r ∧ P r ws' ∧ va_P w.1 vwCl ws' t.heap ∧ va_D A ws') ∧ va_F A st t
def zKT (w : zW) (m : zQ6) (args : List Value) (ws : va_W) (kc ks : Nat) (P : Option Value → va_W → Prop) : Prop := ∀ (l : Launch) (sz : Nat), Met l m.1 (Cond.code m.1 m.2.1 m.2.2.1 m.2.2.2.1 :: zAL) { frames := m.2.2.2.2, cells := kc, slots := ks, locals := 36 * m.2.2.2.2 } (va_Pc args (fun U => U.heap.size = sz ∧ zKp w ws U)) (zKQ w P (va_A ws sz)) kc ks (va_A ws sz)
def zRk (Γ : zG) (ret : Option FieldType) (P : Option Value → va_W → Prop) (kc ks : Nat) : Prop := (zmt Γ).sig.returnType = ret ∧ zQ Γ = MQ (zbl Γ) (zKQ (zw Γ) P (zA Γ)) (za Γ) (zs Γ) kc ks (zA Γ)
/-- what a constructor's body knows beside -/
def zOn (Γ : zG) (w : zW) (nm : String) (kc ks : Nat) : Prop := zw Γ = w ∧ zNw (zs Γ) ∧ (zmt Γ).name = nm ∧ (zRm Γ).cells = kc ∧ (zRm Γ).slots = ks
theorem zKT_mk {own : String} {w : zW} {m : zQ6} {args : List Value} {ws : va_W} {kc ks : Nat} {P : Option Value → va_W → Prop} (hown : m.1.cls = own) (hy : plainName own = true) (ls : List (Option Value)) (hls : zas 0 ls = lv_args 0 args) (hlen : (lg_sl args).length ≤ m.2.2.1)
    (body : ∀ Γ, zOk Γ own m.2.1 m.2.2.1 m.2.2.2.2 → zOn Γ w m.1.name kc ks → zRk Γ m.2.2.2.1 P kc ks → zVw Γ ws 0 0 0 ls []) : zKT w m args ws kc ks P := by
  intro l sz
  subst hown
  refine Met.ofW (cc := m.2.1) (maxL := m.2.2.1) (ret := m.2.2.2.1) hy rfl ?_
  intro p e s mi args' below meth c s₁ B hml hv
  obtain ⟨rfl, hsz, hP, hK, hD0, hN⟩ := hv
  have hts := atoms_spec (ws := Cond.code m.1 m.2.1 m.2.2.1 m.2.2.2.1 :: zAL) B.pre
  have hin : meth.name = m.1.name := (name_of_methodNamed B.named B.method).1
  subst hsz
  have hD := hD0.self (sz := s.heap.size)
  have hl := lv_entry args (n := m.2.2.1) hlen
  rw [lg_entry_eq]
  have hbody := body ((p, l, e, ({ frames := m.2.2.2.2, cells := kc, slots := ks, locals := 36 * m.2.2.2.2 } : Room), s, mi, args.toArray, below, meth, c), w, va_A ws s.heap.size, MQ below (zKQ w P (va_A ws s.heap.size)) args.toArray s kc ks (va_A ws s.heap.size))
    ⟨B.exec, B.bytes, hml, findClass_of_methodNamed B.named, fun w h => hts w (List.mem_cons_of_mem _ h), hK, fun q h => Or.inr h, ⟨Nat.le_refl _, Nat.le_refl _⟩, B.notSynchronized⟩ ⟨rfl, hN, hin, rfl, rfl⟩ ⟨B.returns, rfl⟩
  refine hbody s.heap [] _ hP hD va_S.rf ?_
  show lv_has _ c.maxLocals _
  rw [hml, hls]
  exact hl
section ZU
variable {Γ : zG} {own : String} {b : ByteArray} {mL d : Nat} {w0 L L' ws ws' : va_W} {k n : Nat} {pc q t : Nat} {ls : List (Option Value)} {st rest : List Value} {x y : Int} {a ci idx j kc ks : Nat} {P : Option Value → va_W → Prop}
theorem u_w (e : ws = ws') (kk : zVw Γ ws' k n pc ls st) : zVw Γ ws k n pc ls st := e ▸ kk
theorem u_perm (hp : ws.Perm ws') (kk : zVw Γ ws' k n pc ls st) : zVw Γ ws k n pc ls st := fun H locs arr hP hD hS hl => kk H locs arr (va_P_perm hp hP) (va_D_perm hp hD) hS hl
theorem u_get (h : zOk Γ own b mL d) {vs : List Value} {v : Value} (i : Nat) (hd : zD b pc (.getfield idx) 3 q) (hf : zFl own idx ci j) (hc : L[i]? = some (a, .inr (ci, vs))) (hv : vs[j]? = some v) (kk : zVw Γ (w0 ++ L) k n q ls (v :: st)) : zVw Γ (w0 ++ L) k n pc ls (.ref a :: st) := z_getw h hd hf (w0.length + i) (uAt hc) hv kk
theorem u_put (h : zOk Γ own b mL d) {vs : List Value} {v : Value} {ft : FieldType} (i : Nat) (hd : zD b pc (.putfield idx) 3 q) (hf : zFl own idx ci j) (hp : zFp ci j ft) (hc : L[i]? = some (a, .inr (ci, vs))) (hn : narrow ft v = v) (hfit : fits ft v = true) (hl : j < vs.length) (hL : L.set i (a, .inr (ci, vs.set j v)) = L') (kk : zVw Γ (w0 ++ L') k n q ls st) : zVw Γ (w0 ++ L) k n pc ls (v :: .ref a :: st) := by
  refine z_putw h hd hf hp (w0.length + i) (uAt hc) hn hfit hl ?_
  rw [uSet, hL]
  exact kk
def zFq (own : String) (ci k : Nat) (ft : FieldType) : Prop := ∃ (C : String) (T : u_T) (N : Nat) (ty : Nat → FieldType), vwCl[ci]? = some (C, T, N) ∧ (T k).2.2.2 = true ∧ (T k).1 = own ∧ (∀ j, j < N → parseFieldDescriptor (T j).2.2.1 = some (ty j)) ∧ (∀ a, a < N → ∀ b, b < N → a ≠ b → (T a).2.1 ≠ (T b).2.1) ∧ parseFieldDescriptor (T k).2.2.1 = some ft
theorem u_putF (h : zOk Γ own b mL d) (hnm : (zmt Γ).name = "<init>") {vs : List Value} {v : Value} {ft : FieldType} (i : Nat) (hd : zD b pc (.putfield idx) 3 q) (hf : zFl own idx ci j) (hp : zFq own ci j ft) (hc : L[i]? = some (a, .inr (ci, vs))) (hn : narrow ft v = v) (hfit : fits ft v = true) (hl : j < vs.length) (hL : L.set i (a, .inr (ci, vs.set j v)) = L') (kk : zVw Γ (w0 ++ L') k n q ls st) : zVw Γ (w0 ++ L) k n pc ls (v :: .ref a :: st) := by
  obtain ⟨hd, rfl⟩ := hd
  intro H locs arr hP hD hS hl'
  obtain ⟨C, T, N, h1, h2, h3, h4, h5⟩ := hf
  obtain ⟨C', T', N', ty, g1, g2, g2', g3, g4, g5⟩ := hp
  cases h1.symm.trans g1
  refine va_putF h.1 h.2.1 h.2.2.2.2.1 h5 ty g3 g4 h.2.2.2.1 h.2.2.2.2.2.1 hP hD hS (w0.length + i) (uAt hc) h1 j h2 (h.2.2.2.2.1 _ h4) (fun _ h9 => by rw [h3] at h9; exact h9) g2 hnm g2' g5 hn hfit hl hd (fun H1 locs1 hP1 hD1 hS1 => ?_)
  rw [uSet, hL] at hP1 hD1
  exact kk H1 locs1 arr hP1 hD1 hS1 hl'
def zNe (own : String) (idx ci N : Nat) (fs : List Value) : Prop := ∃ (C : String) (T : u_T) (ty : Nat → FieldType), vwCl[ci]? = some (C, T, N) ∧ (∀ w ∈ u_ws C T N, w ∈ zAL) ∧ (∀ k, k < N → parseFieldDescriptor (T k).2.2.1 = some (ty k)) ∧ Cond.classLink own idx C ∈ zAL ∧ Cond.instantiable C N ∈ zAL ∧ Cond.initialized C ∈ zAL ∧ ∀ j, j < N → defaultValue (ty j) = vp_V fs j
theorem u_new (h : zOk Γ own b mL d) {fs : List Value} {N : Nat} (hd : zD b pc (.new idx) 3 q) (hn : zNe own idx ci N fs) (hk : k + 1 ≤ (zRm Γ).cells ∧ n + N ≤ (zRm Γ).slots) (kk : ∀ a, zVw Γ (ws ++ [(a, .inr (ci, fs))]) (k + 1) (n + N) q ls (.ref a :: st)) : zVw Γ ws k n pc ls st := by
  obtain ⟨hd, rfl⟩ := hd
  intro H locs arr hP hD hS hl'
  obtain ⟨C, T, ty, h1, h2, h3, h4, h5, h6, h7⟩ := hn
  exact va_new h.1 h.2.1 h.2.2.2.2.1 h2 ty h3 h.2.2.2.1 (h.2.2.2.2.1 _ h4) (h.2.2.2.2.1 _ h5) (h.2.2.2.2.1 _ h6) h.2.2.2.2.2.1 hP hD hS h.2.2.2.2.2.2.1 h1 h7 hk.1 hk.2 hd (fun a H1 hP1 hD1 hS1 => kk a H1 locs arr hP1 hD1 hS1 hl')
theorem u_newaT (h : zOk Γ own b mL d) {at0 : ArrayType} {ty : FieldType} {t0 N : Nat} {f : (Nat → Int32) ⊕ (Nat → Int64) ⊕ (Nat → UInt32) ⊕ (Nat → UInt64) ⊕ (Nat → Option Nat)} (hd : zD b pc (.newarray at0) 2 q) (hw : Cond.arrayClass (newarray.typeOf at0) ∈ zAL) (hty : newarray.typeOf at0 = ty) (ht : (zty (zw Γ))[t0]? = some ((zw Γ).2.1 t0, ty)) (hra : ∀ (U : State) (cA cB : ClassId), va_RA U cA ty → va_RA U cB ty → cA = cB) (ha : ∀ cA : ClassId, vp_cell cA (N, f) = arrV cA N (fun _ => defaultValue ty)) (hx : x = N) (hN : N ≤ 1000) (hcb : componentBytes ty ≤ 8) (hk : k + 1 ≤ (zRm Γ).cells ∧ n + N ≤ (zRm Γ).slots) (kk : ∀ a, zVw Γ (w0 ++ (L ++ [(a, .inl ((zw Γ).2.1 t0, N, f))])) (k + 1) (n + N) q ls (.ref a :: st)) : zVw Γ (w0 ++ L) k n pc ls (zi x :: st) := by
  obtain ⟨hd, rfl⟩ := hd
  subst hx
  intro H locs arr hP hD hS hl'
  have e := z32 (a := (N : Int)) (by omega)
  have hm : N * componentBytes ty ≤ 1000 * 8 := Nat.mul_le_mul hN hcb
  refine va_newa (n := Int32.ofInt N) h.1 h.2.1 (h.2.2.2.2.1 _ hw) hty h.2.2.2.2.2.1 hP hD hS h.2.2.2.2.2.2.1 ha ?_ ?_ (by omega) hk.1 hk.2 hd (fun a cA H1 hK1 hP1 hD1 hS1 => ?_)
  · rw [Int32.lt_iff_toInt_lt, e]
    show ¬ ((N : Int) < (0 : Int32).toInt)
    rw [show (0 : Int32).toInt = 0 from rfl]
    omega
  · show (Int32.ofInt N).toInt.toNat = N
    rw [e]
    rfl
  · have h2 := hK1.2 (zty (zw Γ)).length (cA, ty) (by rw [List.getElem?_append_right (Nat.le_refl _), Nat.sub_self]; rfl)
    have h3 := h.2.2.2.2.2.1.2 t0 _ ht
    have h4 : cA = (zw Γ).2.1 t0 := hra _ _ _ h2.2 h3.2
    subst h4
    rw [List.append_assoc] at hP1 hD1
    exact kk a H1 locs arr hP1 hD1 hS1 hl'
theorem ra_int (U : State) (cA cB : ClassId) (h1 : va_RA U cA .int) (h2 : va_RA U cB .int) : cA = cB := Option.some.inj (Eq.trans (Eq.symm h1) h2)
theorem ra_byte (U : State) (cA cB : ClassId) (h1 : va_RA U cA .byte) (h2 : va_RA U cB .byte) : cA = cB := Option.some.inj (Eq.trans (Eq.symm h1) h2)
theorem ra_long (U : State) (cA cB : ClassId) (h1 : va_RA U cA .long) (h2 : va_RA U cB .long) : cA = cB := Option.some.inj (Eq.trans (Eq.symm h1) h2)
theorem ra_bool (U : State) (cA cB : ClassId) (h1 : va_RA U cA .boolean) (h2 : va_RA U cB .boolean) : cA = cB := Option.some.inj (Eq.trans (Eq.symm h1) h2)
set_option maxRecDepth 100000 in
theorem acI : Cond.arrayClass (newarray.typeOf .int) ∈ zAL := zAL_of 68 (by rfl) rfl
set_option maxRecDepth 100000 in
theorem acB : Cond.arrayClass (newarray.typeOf .byte) ∈ zAL := zAL_of 67 (by rfl) rfl
set_option maxRecDepth 100000 in
theorem acL : Cond.arrayClass (newarray.typeOf .long) ∈ zAL := zAL_of 283 (by rfl) rfl
set_option maxRecDepth 100000 in
theorem acZ : Cond.arrayClass (newarray.typeOf .boolean) ∈ zAL := zAL_of 114 (by rfl) rfl
def f0 : Nat → Int32 := fun _ => 0
def g0 : Nat → Int64 := fun _ => 0
theorem u_newI (N : Nat) (h : zOk Γ own b mL d) (hd : zD b pc (.newarray .int) 2 q) (hx : x = N) (hN : N ≤ 1000) (hk : k + 1 ≤ (zRm Γ).cells ∧ n + N ≤ (zRm Γ).slots) (kk : ∀ a, zVw Γ (w0 ++ (L ++ [eI (zw Γ) a 0 N f0])) (k + 1) (n + N) q ls (.ref a :: st)) : zVw Γ (w0 ++ L) k n pc ls (zi x :: st) := u_newaT (t0 := 0) h hd acI rfl rfl ra_int (fun _ => rfl) hx hN (by decide) hk kk
theorem u_newB (N : Nat) (h : zOk Γ own b mL d) (hd : zD b pc (.newarray .byte) 2 q) (hx : x = N) (hN : N ≤ 1000) (hk : k + 1 ≤ (zRm Γ).cells ∧ n + N ≤ (zRm Γ).slots) (kk : ∀ a, zVw Γ (w0 ++ (L ++ [eI (zw Γ) a 1 N f0])) (k + 1) (n + N) q ls (.ref a :: st)) : zVw Γ (w0 ++ L) k n pc ls (zi x :: st) := u_newaT (t0 := 1) h hd acB rfl rfl ra_byte (fun _ => rfl) hx hN (by decide) hk kk
theorem u_newZ (N : Nat) (h : zOk Γ own b mL d) (hd : zD b pc (.newarray .boolean) 2 q) (hx : x = N) (hN : N ≤ 1000) (hk : k + 1 ≤ (zRm Γ).cells ∧ n + N ≤ (zRm Γ).slots) (kk : ∀ a, zVw Γ (w0 ++ (L ++ [eI (zw Γ) a 3 N f0])) (k + 1) (n + N) q ls (.ref a :: st)) : zVw Γ (w0 ++ L) k n pc ls (zi x :: st) := u_newaT (t0 := 3) h hd acZ rfl rfl ra_bool (fun _ => rfl) hx hN (by decide) hk kk
theorem u_newJ (N : Nat) (h : zOk Γ own b mL d) (hd : zD b pc (.newarray .long) 2 q) (hx : x = N) (hN : N ≤ 1000) (hk : k + 1 ≤ (zRm Γ).cells ∧ n + N ≤ (zRm Γ).slots) (kk : ∀ a, zVw Γ (w0 ++ (L ++ [eJ (zw Γ) a N g0])) (k + 1) (n + N) q ls (.ref a :: st)) : zVw Γ (w0 ++ L) k n pc ls (zi x :: st) := u_newaT (t0 := 2) h hd acL rfl rfl ra_long (fun _ => rfl) hx hN (by decide) hk kk
theorem u_newR (h : zOk Γ own b mL d) (hw : zNw (zs Γ)) (hd : zD b pc (.anewarray idx) 3 q) (hcl : Cond.classLink own idx RX0 ∈ zAL) (N : Nat) (hx : x = N) (hN : N ≤ 1000) (hk : k + 1 ≤ (zRm Γ).cells ∧ n + N ≤ (zRm Γ).slots) (kk : ∀ a, zVw Γ (w0 ++ (L ++ [eR (zw Γ) a N (fun _ => none)])) (k + 1) (n + N) q ls (.ref a :: st)) : zVw Γ (w0 ++ L) k n pc ls (zi x :: st) := by
  obtain ⟨hd, rfl⟩ := hd
  subst hx
  intro H locs arr hP hD hS hl'
  have e := z32 (a := (N : Int)) (by omega)
  refine va_newq (n := Int32.ofInt N) h.1 h.2.1 h.2.2.2.1 (h.2.2.2.2.1 _ hcl) hw.1 h.2.2.2.2.2.1 hP hD hS h.2.2.2.2.2.2.1 ?_ (N' := N) ?_ (by omega) hk.1 hk.2 hd (fun a cA H1 hK1 hP1 hD1 hS1 => ?_)
  · rw [Int32.lt_iff_toInt_lt, e]
    show ¬ ((N : Int) < (0 : Int32).toInt)
    rw [show (0 : Int32).toInt = 0 from rfl]
    omega
  · show (Int32.ofInt N).toInt.toNat = N
    rw [e]
    rfl
  · have h2 := hK1.2 (zty (zw Γ)).length (cA, .object RX0) (by rw [List.getElem?_append_right (Nat.le_refl _), Nat.sub_self]; rfl)
    have h3 := h.2.2.2.2.2.1.2 4 ((zw Γ).2.1 4, .object RX0) rfl
    have h4 : cA = (zw Γ).2.1 4 := by
      obtain ⟨_, _, _, _, _, e1⟩ := h2.2
      obtain ⟨_, _, _, _, _, e2⟩ := h3.2
      exact Option.some.inj (e1.symm.trans e2)
    subst h4
    rw [List.append_assoc] at hP1 hD1
    exact kk a H1 locs arr hP1 hD1 hS1 hl'
theorem u_astq (h : zOk Γ own b mL d) {N v : Nat} {vs : List Value} {f : Nat → Option Nat} (i i2 : Nat) (hd : zD b pc .aastore 1 q) (hc : L[i]? = some (eR (zw Γ) a N f)) (hv : L[i2]? = some (v, .inr (0, vs))) (hN : N < 2147483648) (hx : 0 ≤ x ∧ x < N) (hL : L.set i (eR (zw Γ) a N (va_up f x.toNat (some v))) = L') (kk : zVw Γ (w0 ++ L') k n q ls st) : zVw Γ (w0 ++ L) k n pc ls (.ref v :: zi x :: .ref a :: st) := by
  obtain ⟨hd, rfl⟩ := hd
  intro H locs arr hP hD hS hl'
  obtain ⟨h1, h2⟩ := z_in hx hN
  refine va_astq h.1 h.2.1 h.2.2.2.2.2.1 hP hD hS (w0.length + i) 4 (w0.length + i2) 0 (uAt hc) (r := (RX0, TX0, 4)) rfl (uAt hv) rfl h1 hd (fun H1 locs1 hP1 hD1 hS1 => ?_)
  rw [uSet, h2, hL] at hP1 hD1
  exact kk H1 locs1 arr hP1 hD1 hS1 hl'
theorem u_iald (h : zOk Γ own b mL d) {N : Nat} {f : Nat → Int32} (i : Nat) (hd : zD b pc .iaload 1 q) (hc : L[i]? = some (eI (zw Γ) a 0 N f)) (hN : N < 2147483648) (hx : 0 ≤ x ∧ x < N) (hv : f x.toNat = Int32.ofInt y) (kk : zVw Γ (w0 ++ L) k n q ls (zi y :: st)) : zVw Γ (w0 ++ L) k n pc ls (zi x :: .ref a :: st) := by
  obtain ⟨hd, rfl⟩ := hd
  intro H locs arr hP hD hS hl'
  obtain ⟨h1, h2⟩ := z_in hx hN
  refine va_iald h.1 h.2.1 h.2.2.2.2.2.1 hP (w0.length + i) 0 (uAt hc) rfl h1 hd ?_
  rw [h2, hv]
  exact kk H locs arr hP hD hS hl'
theorem u_alen (h : zOk Γ own b mL d) {N : Nat} {f : Nat → Int32} (i : Nat) (hd : zD b pc .arraylength 1 q) (hc : L[i]? = some (eI (zw Γ) a 0 N f)) (hx : (N : Int) = x) (kk : zVw Γ (w0 ++ L) k n q ls (zi x :: st)) : zVw Γ (w0 ++ L) k n pc ls (.ref a :: st) := by
  obtain ⟨hd, rfl⟩ := hd
  subst hx
  intro H locs arr hP hD hS hl'
  have hv : Int32.ofNat N = Int32.ofInt N := by rw [← Int32.ofInt_eq_ofNat]
  exact va_alen h.1 h.2.1 h.2.2.2.2.2.1 hP (w0.length + i) 0 (uAt hc) rfl hv hd (kk H locs arr hP hD hS hl')
theorem u_iast (h : zOk Γ own b mL d) {N : Nat} {f : Nat → Int32} (i : Nat) (hd : zD b pc .iastore 1 q) (hc : L[i]? = some (eI (zw Γ) a 0 N f)) (hN : N < 2147483648) (hx : 0 ≤ x ∧ x < N) (hL : L.set i (eI (zw Γ) a 0 N (upd f x.toNat (Int32.ofInt y))) = L') (kk : zVw Γ (w0 ++ L') k n q ls st) : zVw Γ (w0 ++ L) k n pc ls (zi y :: zi x :: .ref a :: st) := by
  obtain ⟨hd, rfl⟩ := hd
  intro H locs arr hP hD hS hl'
  obtain ⟨h1, h2⟩ := z_in hx hN
  refine va_iast h.1 h.2.1 h.2.2.2.2.2.1 hP hD hS (w0.length + i) 0 (uAt hc) rfl h1 hd (fun H1 locs1 hP1 hD1 hS1 => ?_)
  rw [uSet, h2, hL] at hP1 hD1
  exact kk H1 locs1 arr hP1 hD1 hS1 hl'
theorem u_end (h : zOk Γ own b mL d) {H : Heap} {locs : List Loc} (hP : va_P (zw Γ).1 vwCl ws H) (hD : va_D (zA Γ) ws) (hS : va_S (zA Γ) (zs Γ).heap H locs) {r : Option Value} (hp : P r ws) : ∀ t : State, t.heap = H → (zs Γ).WarmedH t.vm → zKQ (zw Γ) P (zA Γ) (za Γ) (zs Γ) (.returned r) t := by
  intro t ht hW
  exact ⟨⟨r, ws, rfl, hp, by rw [ht]; exact hP, hD⟩, hS.F ht⟩
theorem u_vret (h : zOk Γ own b mL d) (hr : zRk Γ none P k n) (hd : zD b pc .return_ 1 q) (hp : P none ws) : zVw Γ ws k n pc ls [] := by
  obtain ⟨hd, -⟩ := hd
  intro H locs arr hP hD hS hl'
  show W _ _ _ _ _ _ _ _ _ _ _ _ _ _ (zQ Γ) _
  rw [hr.2]
  exact W.vret h.1 h.2.1 hr.1 (u_end h hP hD hS hp) hS.2.2 hd h.2.2.2.2.2.2.2.2
theorem u_zret (h : zOk Γ own b mL d) (hr : zRk Γ (some .boolean) P k n) (hd : zD b pc .ireturn 1 q) (hx : x = 0 ∨ x = 1) (hp : P (some (zi x)) ws) : zVw Γ ws k n pc ls [zi x] := by
  obtain ⟨hd, -⟩ := hd
  intro H locs arr hP hD hS hl'
  show W _ _ _ _ _ _ _ _ _ _ _ _ _ _ (zQ Γ) _
  rw [hr.2]
  exact W.zret h.1 h.2.1 hr.1 (by rcases hx with rfl | rfl <;> rfl) (u_end h hP hD hS hp) hS.2.2 hd h.2.2.2.2.2.2.2.2
theorem uRunEnd {m : zQ6} {args : List Value} {g : JFrame} {H : Heap} {locs : List Loc} (hS : va_S (zA Γ) (zs Γ).heap H locs) (hD : va_D (zA Γ) ws) (h : zOk Γ own b mL d)
    (hr : va_Run (zp Γ) (zln Γ) (zen Γ) (zRm Γ) (zs Γ) (zmi Γ) (za Γ) (zbl Γ) (zmt Γ) (zcd Γ) H locs k n kc ks (F0 (zmi Γ) pc g.locals st) rest (zKQ (zw Γ) P (va_A ws H.size) args.toArray) (va_A ws H.size)) (hl : zlok (zcd Γ).maxLocals g.locals ls)
    (kk : ∀ (r : Option Value) (ws' : va_W), P r ws' → zVw Γ ws' (k + kc) (n + ks) (pc + 3) ls (r.toList ++ rest)) : zWW Γ H locs k n (F0 (zmi Γ) pc g.locals st) := by
  intro T hT X
  obtain ⟨v, st₀, t, T', L, h0, X', hL, e1, e2, ⟨⟨r, ws', hv, hp, hP1, hD1⟩, hz, hk⟩, hst⟩ := hr T hT X
  cases hv
  rw [h0] at hz hk
  have hAq : ∀ q, va_A ws H.size q → zA Γ q := by
    intro q hq
    rcases hq with ⟨j, e, hj⟩ | hq
    · exact hD.2 j (q, e) hj
    · exact h.2.2.2.2.2.2.1 q (Nat.le_trans hS.1 hq)
  have hS1 : va_S (zA Γ) (zs Γ).heap T'.heap (locs ++ L) := ⟨Nat.le_trans hS.1 (by rw [e1]; exact hz), fun q h1 h2 => by
      rw [e1, hk q (Nat.lt_of_lt_of_le h1 hS.1) (fun z => h2 (hAq q z))]; exact hS.2.1 q h1 h2, fun q hq => by
      rcases List.mem_append.mp hq with h | h
      · exact hS.2.2 q h
      · exact hAq _ (hL q h)⟩
  have hD2 : va_D (zA Γ) ws' := hD1.weaken (fun j q hq hA => hAq _ hA)
  obtain ⟨t2, a1, b1⟩ := kk v ws' hp T'.heap (locs ++ L) g.locals (by rw [e1]; exact hP1) hD2 hS1 hl T' rfl X'
  exact ⟨t2, hst t2 a1, b1⟩
theorem uBlind {w : zW} {args : List Value} {sz : Nat} : FrameBlind (va_Pc args (fun U => U.heap.size = sz ∧ zKp w ws U)) := by
  intro a U g mk hp
  obtain ⟨e1, e2, qP, qK, qD, qN⟩ := hp
  exact ⟨e1, e2, qP, va_K.moved (u := U) (U := U.calling g mk a) (Vm.Alike.refl U.vm) qK, qD, zNw_calling qN rfl⟩
theorem u_callV (h : zOk Γ own b mL d) (hw : zNw (zs Γ)) {m : zQ6} {np : Nat} {As vs : List Value} {p0 : Nat} (hd : zD b pc (.invokevirtual idx) 3 q) (hm : zMl own idx m np) (hv : zMv m) (hci : (vwCl[ci]?).map (fun r => r.1) = some m.1.cls) (hc : ws[p0]? = some (a, .inr (ci, vs))) (hM : zKT (zw Γ) m (.ref a :: As) ws kc ks P)
    (hn : As.length = np) (hst : st = As.reverse ++ .ref a :: rest) (hrest : (rest.map fun v => v.category).sum ≤ 8) (hdd : m.2.2.2.2 + 1 ≤ d) (hk : k + kc ≤ (zRm Γ).cells ∧ n + ks ≤ (zRm Γ).slots)
    (kk : ∀ (r : Option Value) (ws' : va_W), P r ws' → zVw Γ ws' (k + kc) (n + ks) q ls (r.toList ++ rest)) : zVw Γ ws k n pc ls st := by
  obtain ⟨hd, rfl⟩ := hd
  obtain ⟨m1, m2, m3, m4, m5⟩ := hm
  intro H locs arr hP hD hS hl'
  have h8 := h.2.2.2.2.2.2.2.1
  have hT : GoodIn zAL (wsV own idx m.1.cls m.1 (Cond.code m.1 m.2.1 m.2.2.1 m.2.2.2.1 :: zAL)) := by
    intro w hw
    apply zAL_good
    simp only [wsV, List.cons_append, List.nil_append, List.mem_cons] at hw
    rcases hw with rfl | rfl | rfl | rfl | rfl | hw
    · exact m1
    · exact hv.1
    · exact hv.2
    · exact m2
    · exact m3
    · exact hw
  obtain ⟨qc, hq1, hq2⟩ : ∃ qc, vwCl[ci]? = some qc ∧ qc.1 = m.1.cls := by
    cases hx : vwCl[ci]? with
    | none => rw [hx] at hci; cases hci
    | some y => rw [hx] at hci; exact ⟨y, rfl, Option.some.inj hci⟩
  refine uRunEnd (m := m) (args := .ref a :: As) (g := F0 (zmi Γ) pc arr st) hS hD h ?_ hl' kk
  refine va_runV (As := As) (rest := rest) (b := a) ⟨h.1, h.2.1, h.2.2.1, h.2.2.2.1, h.2.2.2.2.1⟩ (hM (zln Γ) H.size) (cwV np h.2.2.2.2.1 hT rfl rfl rfl ⟨rfl, m4⟩ ⟨Nat.le_trans hdd h8.1, ?_⟩) ⟨uBlind, ?_, ?_⟩ rfl hn ?_ hst (lv_room hrest) hd hk
  · show 8 + (m.2.2.1 + 11) + 36 * m.2.2.2.2 ≤ _
    omega
  · rw [← hq2]
    exact va_recv h.2.2.2.2.2.1 hP hq1 hc
  · intro U hU hW
    exact ⟨rfl, by rw [hU], by rw [hU]; exact hP, va_K.moved hW.alike h.2.2.2.2.2.1, hD.weaken (fun _ _ _ _ => trivial), zNw_warm hW hw⟩
  · show arr.size = mL
    rw [← h.2.2.1]
    exact hl'.1
/-- a constructor's link: as any method's, or a nest mate's -/
def zIl (Γ : zG) (own : String) (idx : Nat) (m : zQ6) : Prop := (m.1.name = "<init>" ∧ Cond.instanceMethod m.1 ∈ zAL ∧ Cond.initialized m.1.cls ∈ zAL ∧ Cond.code m.1 m.2.1 m.2.2.1 m.2.2.2.1 ∈ zAL ∧ (m.1.cls ≠ "java/lang/invoke/MethodHandle" ∧ m.1.cls ≠ "java/lang/invoke/VarHandle" ∧ (parseMethodDescriptor m.1.desc).map (fun d => d.parameters.length) = some 0) ∧ m.2.2.1 ≤ 17 ∧ m.2.2.2.1 = none) ∧ (Cond.methodLink own idx m.1 ∈ zAL ∨ ∃ host, va_Nw (.methodLinkNest own idx m.1 host) (zs Γ))
theorem u_callI (h : zOk Γ own b mL d) (hw : zNw (zs Γ)) {m : zQ6} (hd : zD b pc (.invokespecial idx) 3 q) (hm : zIl Γ own idx m) (hM : zKT (zw Γ) m [.ref a] ws kc ks P) (hrest : (rest.map fun v => v.category).sum ≤ 8) (hdd : m.2.2.2.2 + 1 ≤ d) (hk : k + kc ≤ (zRm Γ).cells ∧ n + ks ≤ (zRm Γ).slots)
    (kk : ∀ (r : Option Value) (ws' : va_W), P r ws' → zVw Γ ws' (k + kc) (n + ks) q ls (r.toList ++ rest)) : zVw Γ ws k n pc ls (.ref a :: rest) := by
  obtain ⟨hd, rfl⟩ := hd
  obtain ⟨⟨m1, m2, m3, m4, m5, m6, m7⟩, m8⟩ := hm
  intro H locs arr hP hD hS hl'
  have h8 := h.2.2.2.2.2.2.2.1
  have hG : GoodIn zAL (Cond.code m.1 m.2.1 m.2.2.1 none :: zAL) := by
    intro w hw
    apply zAL_good
    rcases List.mem_cons.mp hw with rfl | hw
    · rw [← m7]; exact m4
    · exact hw
  have hM := hM (zln Γ) H.size
  rw [m7] at hM
  have hpre : PreS (zs Γ) H (va_Pc [.ref a] (fun U => U.heap.size = H.size ∧ zKp (zw Γ) ws U)) (.ref a :: []) := ⟨uBlind, fun U hU hW => ⟨rfl, by rw [hU], by rw [hU]; exact hP, va_K.moved hW.alike h.2.2.2.2.2.1, hD.weaken (fun _ _ _ _ => trivial), zNw_warm hW hw⟩⟩
  have hsz : arr.size = mL := by rw [← h.2.2.1]; exact hl'.1
  refine uRunEnd (m := m) (args := [.ref a]) (g := F0 (zmi Γ) pc arr (.ref a :: rest)) hS hD h ?_ hl' kk
  rcases m8 with m8 | ⟨host, m8⟩
  · refine va_runI (As := []) (rest := rest) (b := a) ⟨h.1, h.2.1, h.2.2.1, h.2.2.2.1, h.2.2.2.2.1⟩ hM (cwI 0 h.2.2.2.2.1 hG rfl rfl rfl (h.2.2.2.2.1 _ m3) (h.2.2.2.2.1 _ m8) (h.2.2.2.2.1 _ m2) m1 m5 ⟨Nat.le_trans hdd h8.1, ?_⟩) hpre rfl rfl hsz rfl (lv_room hrest) hd hk
    show 8 + (m.2.2.1 + 11) + 36 * m.2.2.2.2 ≤ _
    omega
  · refine va_runIN (As := []) (rest := rest) (b := a) ⟨h.1, h.2.1, h.2.2.1, h.2.2.2.1, h.2.2.2.2.1⟩ hM ⟨va_cnB 0 h.2.2.2.2.1 hG rfl rfl rfl m8 (h.2.2.2.2.1 _ m3) m5 ⟨Nat.le_trans hdd h8.1, ?_⟩, m1, h.2.2.2.2.1 _ m2⟩ hpre rfl rfl hsz rfl (lv_room hrest) hd hk
    show 8 + (m.2.2.1 + 11) + 36 * m.2.2.2.2 ≤ _
    omega
set_option maxRecDepth 100000 in
theorem obI : Cond.instanceMethod Lib.objectInit ∈ zAL := zAL_of 45 (by rfl) rfl
set_option maxRecDepth 100000 in
theorem obC : Cond.code Lib.objectInit ⟨#[0xb1]⟩ 1 none ∈ zAL := zAL_of 46 (by rfl) rfl
theorem u_obj (h : zOk Γ own b mL d) (hd : zD b pc (.invokespecial idx) 3 q) (hl : Cond.methodLink own idx Lib.objectInit ∈ zAL) (hdd : 1 ≤ d) (hrest : (rest.map fun v => v.category).sum ≤ 8) (kk : zVw Γ ws k n q ls rest) : zVw Γ ws k n pc ls (.ref a :: rest) := by
  obtain ⟨hd, rfl⟩ := hd
  intro H locs arr hP hD hS hl'
  have h8 := h.2.2.2.2.2.2.2.1
  have hr := lv_room (m := zmi Γ) (pc := pc) (ls := arr) (rest := .ref a :: rest) hrest
  refine W.objInit h.1 h.2.1 h.2.2.2.1 (h.2.2.2.2.1 _ hl) (h.2.2.2.2.1 _ obI) (h.2.2.2.2.1 _ obC) rfl hl'.1 rfl hd (by omega) (by omega) ?_
  exact kk H locs arr hP hD hS hl'
/-- a constructor: behind it the new object's cells stand at the world's end -/
def zMk (w : zW) (m : zQ6) (ci : Nat) (fs : List Value) (kc ks : Nat) (B : Nat → va_W → Prop) : Prop := ∀ (w1 : va_W) (a : Nat), zKT w m [.ref a] (w1 ++ [(a, .inr (ci, fs))]) kc ks (fun r ws' => r = none ∧ ∃ b, B a b ∧ ws' = w1 ++ b)
/-- new, dup, the constructor's call -/
theorem u_make (h : zOk Γ own b mL d) (hw : zNw (zs Γ)) {m : zQ6} {fs : List Value} {N q1 q2 idx2 : Nat} {B : Nat → va_W → Prop} (hd : zD b pc (.new idx) 3 q1) (hd1 : zD b q1 .dup 1 q2) (hd2 : zD b q2 (.invokespecial idx2) 3 q) (hn : zNe own idx ci N fs) (hm : zIl Γ own idx2 m) (hM : zMk (zw Γ) m ci fs kc ks B) (hrest : (st.map fun v => v.category).sum ≤ 7) (hdd : m.2.2.2.2 + 1 ≤ d) (hk : k + 1 + kc ≤ (zRm Γ).cells ∧ n + N + ks ≤ (zRm Γ).slots)
    (kk : ∀ (a : Nat) (bl : va_W), B a bl → zVw Γ (w0 ++ (L ++ bl)) (k + 1 + kc) (n + N + ks) q ls (.ref a :: st)) : zVw Γ (w0 ++ L) k n pc ls st := by
  refine u_new h hd hn ⟨by omega, by omega⟩ (fun a => ?_)
  refine z_dup h hd1 rfl ?_
  refine u_callI h hw hd2 hm (hM (w0 ++ L) a) (by rw [List.map_cons, List.sum_cons]; show 1 + (st.map fun v => v.category).sum ≤ 8; omega) hdd hk (fun r ws' hp => ?_)
  obtain ⟨rfl, bl, hB, rfl⟩ := hp
  rw [List.append_assoc]
  exact kk a bl hB
/-- a call on cells that stand at the world's end -/
theorem u_callB (h : zOk Γ own b mL d) (hw : zNw (zs Γ)) {m : zQ6} {np : Nat} {As vs : List Value} {bl : va_W} {i : Nat} {Q : Option Value → va_W → Prop} (hd : zD b pc (.invokevirtual idx) 3 q) (hm : zMl own idx m np) (hv : zMv m) (hci : (vwCl[ci]?).map (fun r => r.1) = some m.1.cls) (hc : bl[i]? = some (a, .inr (ci, vs))) (hM : zKT (zw Γ) m (.ref a :: As) ((w0 ++ L) ++ bl) 0 0 (fun r ws' => ∃ b', Q r b' ∧ ws' = (w0 ++ L) ++ b'))
    (hn : As.length = np) (hst : st = As.reverse ++ .ref a :: rest) (hrest : (rest.map fun v => v.category).sum ≤ 8) (hdd : m.2.2.2.2 + 1 ≤ d) (hk : k ≤ (zRm Γ).cells ∧ n ≤ (zRm Γ).slots)
    (kk : ∀ (r : Option Value) (bl' : va_W), Q r bl' → zVw Γ (w0 ++ (L ++ bl')) k n q ls (r.toList ++ rest)) : zVw Γ (w0 ++ (L ++ bl)) k n pc ls st := by
  rw [← List.append_assoc]
  refine u_callV h hw hd hm hv hci (uAt hc) hM hn hst hrest hdd hk (fun r ws' hp => ?_)
  obtain ⟨b', hq, rfl⟩ := hp
  rw [List.append_assoc]
  exact kk r b' hq
end ZU
