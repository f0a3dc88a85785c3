/-! ===== who is served by a minute ===== -/
def jOk (P : zP) (b : Int) (s : zS) : Prop := s.1.Nodup ∧ (∀ x ∈ s.1, pA P x < b) ∧ ∀ i, s.2.1 i = 0 → i ∉ s.1 ∧ pA P i < b ∧ s.2.2.1 i < b
theorem zIx_mem (law t : Int) : ∀ (pe : List (Int × Int × Int)) (n : Int) (line : List Int) (x : Int), x ∈ zIx law t pe n line → x ∈ line ∨ (n ≤ x ∧ x < n + pe.length ∧ (pe.getD (x - n).toNat (0, 0, 0)).1 = t)
  | [], n, line, x, h => Or.inl h
  | p :: r, n, line, x, h => by
    rw [zIx] at h
    rcases zIx_mem law t r (n + 1) _ x h with h | ⟨h1, h2, h3⟩
    · by_cases e : p.1 = t
      · rw [if_pos e] at h
        rcases List.mem_cons.mp ((zJoin_perm law line n).mem_iff.mp h) with rfl | h
        · right
          refine ⟨by omega, by rw [List.length_cons]; omega, ?_⟩
          rw [show (x - x).toNat = 0 by omega]
          exact e
        · exact Or.inl h
      · rw [if_neg e] at h
        exact Or.inl h
    · right
      refine ⟨by omega, by rw [List.length_cons]; omega, ?_⟩
      rw [show (x - n).toNat = (x - (n + 1)).toNat + 1 by omega]
      exact h3
theorem zIx_nodup (law t : Int) : ∀ (pe : List (Int × Int × Int)) (n : Int) (line : List Int), line.Nodup → (∀ x ∈ line, x < n ∨ ∀ j : Nat, x = n + j → (pe.getD j (0, 0, 0)).1 ≠ t ∨ pe.length ≤ j) → (zIx law t pe n line).Nodup
  | [], n, line, h, _ => h
  | p :: r, n, line, h, hm => by
    rw [zIx]
    refine zIx_nodup law t r (n + 1) _ ?_ ?_
    · by_cases e : p.1 = t
      · rw [if_pos e]
        refine (zJoin_perm law line n).nodup_iff.mpr (List.nodup_cons.mpr ⟨fun z => ?_, h⟩)
        rcases hm n z with hm | hm
        · omega
        · rcases hm 0 (by omega) with hm | hm
          · exact hm e
          · simp at hm
      · rw [if_neg e]
        exact h
    · intro x hx
      have key : x ∈ line → (x < n + 1 ∨ ∀ j : Nat, x = n + 1 + j → (r.getD j (0, 0, 0)).1 ≠ t ∨ r.length ≤ j) := fun z => by
        rcases hm x z with hm | hm
        · left; omega
        · right
          intro j hj
          rcases hm (j + 1) (by omega) with hm | hm
          · left; exact hm
          · right; rw [List.length_cons] at hm; omega
      by_cases e : p.1 = t
      · rw [if_pos e] at hx
        rcases List.mem_cons.mp ((zJoin_perm law line n).mem_iff.mp hx) with rfl | hx
        · left; omega
        · exact key hx
      · rw [if_neg e] at hx
        exact key hx
theorem jOk_step {P : zP} {md : zMd} {t : Int} {s : zS} (h : jOk P t s) : jOk P (t + 1) (sStep P md t s) ∧ (∀ i, s.2.1 i = 0 → (sStep P md t s).2.1 i = 0 ∧ (sStep P md t s).2.2.1 i = s.2.2.1 i) ∧ ∀ i, (sStep P md t s).2.1 i = 0 → s.2.1 i = 0 ∨ (sStep P md t s).2.2.1 i = t := by
  obtain ⟨n1, n2, n3⟩ := h
  unfold sStep
  -- away
  have a : jOk P t (sAway P t s) ∧ (∀ i, s.2.1 i = 0 → (sAway P t s).2.1 i = 0 ∧ (sAway P t s).2.2.1 i = s.2.2.1 i) ∧ ∀ i, (sAway P t s).2.1 i = 0 → s.2.1 i = 0 := by
    have e : ∀ i, (sAway P t s).2.1 i = (if i ∈ s.1 ∧ gG P t i = true then 1 else s.2.1 i) := fun i => rfl
    have e' : ∀ i, (sAway P t s).2.2.1 i = (if i ∈ s.1 ∧ gG P t i = true then t else s.2.2.1 i) := fun i => rfl
    have hb : ∀ i, (sAway P t s).2.1 i = 0 → s.2.1 i = 0 := fun i z => by
      rw [e] at z
      split at z
      · omega
      · exact z
    refine ⟨⟨n1.filter _, fun x hx => n2 x (List.mem_filter.mp hx).1, fun i z => ?_⟩, fun i z => ?_, hb⟩
    · have z1 := n3 i (hb i z)
      refine ⟨fun y => z1.1 (List.mem_filter.mp y).1, z1.2.1, ?_⟩
      rw [e', if_neg (fun y => z1.1 y.1)]
      exact z1.2.2
    · have z1 := n3 i z
      rw [e, e', if_neg (fun y => z1.1 y.1), if_neg (fun y => z1.1 y.1)]
      exact ⟨z, rfl⟩
  generalize sAway P t s = s1 at a
  obtain ⟨⟨b1, b2, b3⟩, a2, a3⟩ := a
  have tu : (sTurn P md t s1).1.Perm s1.1 ∧ (sTurn P md t s1).2.1 = s1.2.1 ∧ (sTurn P md t s1).2.2.1 = s1.2.2.1 := by
    unfold sTurn
    split
    · exact ⟨zTurn_perm _ _, rfl, rfl⟩
    · exact ⟨List.Perm.refl _, rfl, rfl⟩
  generalize sTurn P md t s1 = s2 at tu
  obtain ⟨t1, t2, t3⟩ := tu
  rw [sCome_ix]
  have c1 : (zIx md.1 t P.1 0 s2.1).Nodup := by
    refine zIx_nodup _ _ _ _ _ (t1.nodup_iff.mpr b1) (fun x hx => ?_)
    have := b2 x (t1.mem_iff.mp hx)
    right
    intro j hj
    left
    intro z
    unfold pA at this
    rw [hj, show ((0 : Int) + (j : Int)).toNat = j by omega] at this
    omega
  have c2 : ∀ x ∈ zIx md.1 t P.1 0 s2.1, pA P x < t + 1 ∧ (x ∈ s1.1 ∨ pA P x = t) := fun x hx => by
    rcases zIx_mem _ _ _ _ _ x hx with hx | ⟨h1, h2, h3⟩
    · have := b2 x (t1.mem_iff.mp hx)
      exact ⟨by omega, Or.inl (t1.mem_iff.mp hx)⟩
    · have : pA P x = t := by unfold pA; rw [show x.toNat = (x - 0).toNat by omega]; exact h3
      exact ⟨by omega, Or.inr this⟩
  generalize zIx md.1 t P.1 0 s2.1 = ln at c1 c2
  have c3 : ∀ i, s1.2.1 i = 0 → i ∉ ln := fun i z y => by
    have z1 := b3 i z
    rcases (c2 i y).2 with y | y
    · exact z1.1 y
    · omega
  -- serve
  have sv : ∃ m : Nat, (sServe P t (ln, s2.2)).1 = ln.drop m ∧ (sServe P t (ln, s2.2)).2.1 = zEd (ln.take m) 0 s1.2.1 ∧ (sServe P t (ln, s2.2)).2.2.1 = zEd (ln.take m) t s1.2.2.1 := by
    unfold sServe
    split
    · refine ⟨sMany P (ln, s2.2), rfl, ?_, ?_⟩
      · show zEd _ 0 s2.2.1 = _
        rw [t2]
      · show zEd _ t s2.2.2.1 = _
        rw [t3]
    · exact ⟨0, rfl, by rw [List.take_zero, zEd_nil, ← t2], by rw [List.take_zero, zEd_nil, ← t3]⟩
  obtain ⟨m, d1, d2, d3⟩ := sv
  generalize sServe P t (ln, s2.2) = s4 at d1 d2 d3
  have hnd : ∀ x, x ∈ ln.take m → x ∉ ln.drop m := fun x hx hy => by
    rw [← List.take_append_drop m ln] at c1
    exact (List.nodup_append.mp c1).2.2 x hx x hy rfl
  have f1 : ∀ i, s4.2.1 i = 0 → (i ∈ ln.take m ∧ s4.2.2.1 i = t) ∨ (i ∉ ln.take m ∧ s1.2.1 i = 0 ∧ s4.2.2.1 i = s1.2.2.1 i) := fun i z => by
    rw [d2] at z
    rw [d3]
    unfold zEd at z ⊢
    by_cases y : i ∈ ln.take m
    · left; exact ⟨y, if_pos y⟩
    · right
      rw [if_neg y] at z
      exact ⟨y, z, if_neg y⟩
  have f2 : ∀ i, s1.2.1 i = 0 → s4.2.1 i = 0 ∧ s4.2.2.1 i = s1.2.2.1 i := fun i z => by
    have y : i ∉ ln.take m := fun y => c3 i z (List.mem_of_mem_take y)
    rw [d2, d3]
    unfold zEd
    rw [if_neg y, if_neg y]
    exact ⟨z, rfl⟩
  have f3 : ∀ i, s4.2.1 i = 0 → i ∉ s4.1 ∧ pA P i < t + 1 ∧ s4.2.2.1 i < t + 1 := fun i z => by
    rw [d1]
    rcases f1 i z with ⟨y, w⟩ | ⟨y, w, v⟩
    · have := (c2 i (List.mem_of_mem_take y)).1
      exact ⟨hnd i y, this, by omega⟩
    · have := b3 i w
      exact ⟨fun u => c3 i w (List.mem_of_mem_drop u), by omega, by omega⟩
  have f4 : s4.1.Nodup ∧ ∀ x ∈ s4.1, pA P x < t + 1 := by
    rw [d1]
    exact ⟨c1.sublist (List.drop_sublist _ _), fun x hx => (c2 x (List.mem_of_mem_drop hx)).1⟩
  have g1 : ∀ i, s.2.1 i = 0 → s4.2.1 i = 0 ∧ s4.2.2.1 i = s.2.2.1 i := fun i z => by
    have z1 := a2 i z
    have z2 := f2 i z1.1
    exact ⟨z2.1, z2.2.trans z1.2⟩
  have g2 : ∀ i, s4.2.1 i = 0 → s.2.1 i = 0 ∨ s4.2.2.1 i = t := fun i z => by
    rcases f1 i z with ⟨y, w⟩ | ⟨y, w, v⟩
    · exact Or.inr w
    · exact Or.inl (a3 i w)
  -- home
  unfold sHome
  split
  · have k1 : ∀ i, zEd s4.1 2 s4.2.1 i = 0 → i ∉ s4.1 ∧ s4.2.1 i = 0 := fun i z => by
      unfold zEd at z
      by_cases y : i ∈ s4.1
      · rw [if_pos y] at z; omega
      · rw [if_neg y] at z; exact ⟨y, z⟩
    have k2 : ∀ (v : Int) (f : Int → Int) i, i ∉ s4.1 → zEd s4.1 v f i = f i := fun v f i y => by unfold zEd; rw [if_neg y]
    refine ⟨⟨List.nodup_nil, fun x hx => absurd hx List.not_mem_nil, fun i z => ?_⟩, fun i z => ?_, fun i z => ?_⟩
    · have z1 := k1 i z
      have z2 := f3 i z1.2
      refine ⟨by simp, z2.2.1, ?_⟩
      show zEd s4.1 t s4.2.2.1 i < t + 1
      rw [k2 _ _ i z1.1]
      exact z2.2.2
    · have z1 := g1 i z
      have z2 := f3 i z1.1
      show zEd s4.1 2 s4.2.1 i = 0 ∧ zEd s4.1 t s4.2.2.1 i = s.2.2.1 i
      rw [k2 _ _ i z2.1, k2 _ _ i z2.1]
      exact z1
    · have z1 := k1 i z
      show s.2.1 i = 0 ∨ zEd s4.1 t s4.2.2.1 i = t
      rw [k2 _ _ i z1.1]
      exact g2 i z1.2
  · exact ⟨⟨f4.1, f4.2, f3⟩, g1, g2⟩
theorem jOk_run (P : zP) (md : zMd) : ∀ t : Nat, jOk P t (sRun P md t)
  | 0 => ⟨List.nodup_nil, fun x hx => absurd hx List.not_mem_nil, fun i z => by simp [sRun, sInit] at z⟩
  | t + 1 => (jOk_step (jOk_run P md t)).1
theorem zSv_by (P : zP) (hu : Nat) (i : Int) (m : Nat) (hm : m < 200) : zSv P i m hu = true ↔ ((zFn P (pL P) hu []).2.1 i = 0 ∧ (zFn P (pL P) hu []).2.2.1 i ≤ m) := by
  unfold zSv zFn
  rw [decide_eq_true_iff]
  have key : ∀ k : Nat, (sRun P (pL P, hu, [], -1) (m + 1)).2.1 i = 0 ↔ ((sRun P (pL P, hu, [], -1) (m + 1 + k)).2.1 i = 0 ∧ (sRun P (pL P, hu, [], -1) (m + 1 + k)).2.2.1 i ≤ m) := by
    intro k
    induction k with
    | zero =>
      have := (jOk_run P (pL P, hu, [], -1) (m + 1)).2.2 i
      constructor
      · intro z
        have := this z
        exact ⟨z, by simp only [Nat.add_zero]; omega⟩
      · exact fun z => z.1
    | succ k ih =>
      rw [ih]
      have st := jOk_step (md := (pL P, hu, [], -1)) (jOk_run P (pL P, hu, [], -1) (m + 1 + k))
      rw [show sRun P (pL P, hu, [], -1) (m + 1 + (k + 1)) = sStep P (pL P, hu, [], -1) ((m + 1 + k : Nat) : Int) (sRun P (pL P, hu, [], -1) (m + 1 + k)) from rfl]
      constructor
      · intro z
        have := st.2.1 i z.1
        exact ⟨this.1, by rw [this.2]; exact z.2⟩
      · intro z
        rcases st.2.2 i z.1 with y | y
        · have := st.2.1 i y
          exact ⟨y, by rw [← this.2]; exact z.2⟩
        · omega
  have := key (199 - m)
  rw [show m + 1 + (199 - m) = 200 by omega] at this
  exact this
theorem zon_dec : ∀ k : Fin 256, k.val ≠ 0 → zand ((k.val : Nat) : Int) ((k.val : Int) - 1) = ((k.val &&& (k.val - 1) : Nat) : Int) ∧ zon (k.val &&& (k.val - 1)) + 1 = zon k.val ∧ k.val &&& (k.val - 1) < 256 := by decide +kernel
theorem zon_z : ∀ k : Fin 256, zon k.val = 0 → k.val = 0 := by decide +kernel
theorem c_X8_ones (σ : zM) (s : Nat) (hs : s < 256) : zCi mX8_ones (fun _ => [zi s]) σ (fun r σ' => r = zon s ∧ σ' = σ) := by
  refine zCi_mk (own := RX8) rfl (by decide +kernel) (fun w => [some (zi s), none, none]) (fun _ => rfl) (fun _ => Nat.le_of_ble_eq_true rfl) ?_
  intro Γ h hr
  have L : ∀ (n k : Nat) (c : Int), k < 256 → zon k = n → c + n = zon s → zV Γ σ 4 [some (zi s), some (zi c), some (zi k)] [] := by
    intro n
    induction n with
    | zero =>
      intro k c h1 h2 h3
      have := zon_z ⟨k, h1⟩ h2
      have e : k = 0 := this
      subst e
      refine z_iload_n h dX8_ones_4 rfl ?_
      refine z_if_eq h dX8_ones_5 (by omega) (fun b5 => ?_) (fun b5 => by exfalso; omega)
      refine z_iload_n h dX8_ones_20 rfl ?_
      refine z_irI h hr dX8_ones_21 ?_
      exact ⟨by omega, rfl⟩
    | succ n ih =>
      intro k c h1 h2 h3
      have e : k ≠ 0 := fun z => by subst z; simp [zon] at h2
      have hd := zon_dec ⟨k, h1⟩ e
      simp only at hd
      refine z_iload_n h dX8_ones_4 rfl ?_
      refine z_if_eq h dX8_ones_5 (by omega) (fun b5 => by exfalso; omega) (fun b5 => ?_)
      refine z_iinc h dX8_ones_8 (by decide) rfl (zst1_1 rfl) ?_
      refine z_iload_n h dX8_ones_11 rfl ?_
      refine z_iload_n h dX8_ones_12 rfl ?_
      refine z_iconst h dX8_ones_13 ?_
      refine z_isub h dX8_ones_14 ?_
      refine z_iand h dX8_ones_15 ?_
      rw [hd.1]
      refine z_ist1_n h dX8_ones_16 (by decide) (zst1_2 rfl) ?_
      refine z_goto h dX8_ones_17 ?_
      exact ih (k &&& (k - 1)) (c + 1) hd.2.2 (by omega) (by omega)
  refine z_iconst h dX8_ones_0 ?_
  refine z_ist1_n h dX8_ones_1 (by decide) (zst1_1 rfl) ?_
  refine z_iload_n h dX8_ones_2 rfl ?_
  refine z_ist1_n h dX8_ones_3 (by decide) (zst1_2 rfl) ?_
  exact L (zon s) s 0 hs rfl (by omega)
