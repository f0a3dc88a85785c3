/-! ===== a plan ===== -/
abbrev zP : Type := List (Int × Int × Int) × List (Int × Int) × Int × Int × Int × Int × Int
/-- PERSONS as they come: pairs of minute and number -/
def zins (a n : Int) (l : List (Int × Int)) : List (Int × Int) := l.filter (fun x => decide (x.1 ≤ a)) ++ (a, n) :: l.filter (fun x => decide (a < x.1))
def zodl : List (Int × Int × Int) → Int → List (Int × Int) → List (Int × Int)
  | [], _, acc => acc
  | p :: t, n, acc => zodl t (n + 1) (zins p.1 n acc)
def zod (pe : List (Int × Int × Int)) : List (Int × Int) := zodl pe 0 []
theorem zodl_app : ∀ (l : List (Int × Int × Int)) (p : Int × Int × Int) (n : Int) (acc : List (Int × Int)), zodl (l ++ [p]) n acc = zins p.1 (n + l.length) (zodl l n acc)
  | [], p, n, acc => by simp [zodl]
  | q :: t, p, n, acc => by
    simp only [List.cons_append, zodl, zodl_app t p (n + 1), List.length_cons]
    congr 1
    push_cast
    omega
theorem zod_app (l : List (Int × Int × Int)) (p : Int × Int × Int) : zod (l ++ [p]) = zins p.1 l.length (zod l) := by
  unfold zod
  rw [zodl_app]
  simp
theorem zins_len (a n : Int) (l : List (Int × Int)) : (zins a n l).length = l.length + 1 := by
  unfold zins
  induction l with
  | nil => simp
  | cons x t ih =>
    simp only [List.filter_cons]
    by_cases h : x.1 ≤ a
    · have h2 : ¬ a < x.1 := by omega
      simp [h, h2] at ih ⊢
      omega
    · have h2 : a < x.1 := by omega
      simp [h, h2] at ih ⊢
      omega
theorem zrev {α : Type} {P : List α → Prop} (h0 : P []) (h1 : ∀ l p, P l → P (l ++ [p])) : ∀ l, P l := by
  intro l
  have : ∀ (n : Nat) (l : List α), l.length = n → P l := by
    intro n
    induction n with
    | zero => intro l hl; rw [List.length_eq_zero_iff.mp hl]; exact h0
    | succ n ih =>
      intro l hl
      rcases List.eq_nil_or_concat l with rfl | ⟨l', p, rfl⟩
      · exact h0
      · rw [List.concat_eq_append] at hl ⊢
        exact h1 l' p (ih l' (by simpa using hl))
  exact this l.length l rfl
theorem zod_len (pe : List (Int × Int × Int)) : (zod pe).length = pe.length := by
  refine zrev (P := fun pe => (zod pe).length = pe.length) rfl (fun l p ih => ?_) pe
  show (zod (l ++ [p])).length = (l ++ [p]).length
  rw [zod_app, zins_len, ih]
  simp
theorem zod_mem (pe : List (Int × Int × Int)) : ∀ x ∈ zod pe, 0 ≤ x.2 ∧ ∃ p, pe[x.2.toNat]? = some p ∧ p.1 = x.1 := by
  refine zrev (P := fun pe => ∀ x ∈ zod pe, 0 ≤ x.2 ∧ ∃ p, pe[x.2.toNat]? = some p ∧ p.1 = x.1) (by simp [zod, zodl]) (fun l p ih => ?_) pe
  · intro x hx
    rw [zod_app, zins] at hx
    have key : x ∈ zod l → 0 ≤ x.2 ∧ ∃ q, (l ++ [p])[x.2.toNat]? = some q ∧ q.1 = x.1 := by
      intro h
      obtain ⟨h1, q, h2, h3⟩ := ih x h
      refine ⟨h1, q, ?_, h3⟩
      rw [List.getElem?_append_left (List.getElem?_eq_some_iff.mp h2).1]
      exact h2
    rcases List.mem_append.mp hx with h | h
    · exact key (List.mem_filter.mp h).1
    · rcases List.mem_cons.mp h with rfl | h
      · exact ⟨by simp, p, by simp, rfl⟩
      · exact key (List.mem_filter.mp h).1
theorem zod_sorted (pe : List (Int × Int × Int)) : (zod pe).Pairwise (fun x y => x.1 ≤ y.1) := by
  refine zrev (P := fun pe => (zod pe).Pairwise (fun x y => x.1 ≤ y.1)) (by simp [zod, zodl]) (fun l p ih => ?_) pe
  · show (zod (l ++ [p])).Pairwise (fun x y => x.1 ≤ y.1)
    rw [zod_app, zins]
    refine List.pairwise_append.mpr ⟨ih.filter _, List.pairwise_cons.mpr ⟨?_, ih.filter _⟩, ?_⟩
    · intro y hy
      have := (List.mem_filter.mp hy).2
      simp at this
      simp; omega
    · intro x hx y hy
      have h1 := (List.mem_filter.mp hx).2
      simp at h1
      rcases List.mem_cons.mp hy with rfl | hy
      · exact h1
      · have h2 := (List.mem_filter.mp hy).2
        simp at h2
        omega
theorem zod_split (pe : List (Int × Int × Int)) (a : Int) (j : Nat) (hj : j ≤ (zod pe).length) (h1 : ∀ x, (zod pe)[j - 1]? = some x → 0 < j → x.1 ≤ a) (h2 : ∀ k x, (zod pe)[k]? = some x → j ≤ k → a < x.1) (n : Int) : zins a n (zod pe) = (zod pe).take j ++ (a, n) :: (zod pe).drop j := by
  have hs := zod_sorted pe
  have e := List.take_append_drop j (zod pe)
  have ht : ∀ x ∈ (zod pe).take j, x.1 ≤ a := by
    intro x hx
    obtain ⟨k, hk⟩ := List.getElem?_of_mem hx
    rw [List.getElem?_take] at hk
    split at hk
    · next hkj =>
      by_cases hlt : j - 1 < (zod pe).length
      · have hl := h1 _ (List.getElem?_eq_getElem hlt) (by omega)
        by_cases hkk : k = j - 1
        · subst hkk
          rw [List.getElem?_eq_getElem hlt] at hk
          cases hk
          exact hl
        · have hk' := (List.getElem?_eq_some_iff.mp hk)
          obtain ⟨hk1, hk2⟩ := hk'
          have := List.pairwise_iff_getElem.mp hs k (j - 1) hk1 hlt (by omega)
          rw [hk2] at this
          omega
      · exfalso; omega
    · cases hk
  have hd : ∀ x ∈ (zod pe).drop j, a < x.1 := by
    intro x hx
    obtain ⟨k, hk⟩ := List.getElem?_of_mem hx
    rw [List.getElem?_drop] at hk
    exact h2 (j + k) x hk (by omega)
  unfold zins
  conv => lhs; rw [← e]
  rw [List.filter_append, List.filter_append]
  rw [List.filter_eq_self.mpr (fun x hx => by simpa using ht x hx), List.filter_eq_nil_iff.mpr (fun x hx => by have := hd x hx; simp; omega), List.filter_eq_nil_iff.mpr (fun x hx => by have := ht x hx; simp; omega), List.filter_eq_self.mpr (fun x hx => by simpa using hd x hx)]
  simp
/-- what a plan holds is as the document says -/
def zPok (P : zP) : Prop := P.1.length ≤ 10 ∧ (∀ p ∈ P.1, 0 ≤ p.1 ∧ p.1 ≤ 99 ∧ (p.2.1 = 0 ∨ p.2.1 = 1) ∧ 1 ≤ p.2.2 ∧ p.2.2 ≤ 99) ∧ (∀ c ∈ P.2.1, 0 ≤ c.1 ∧ c.1 < P.1.length) ∧ (0 ≤ P.2.2.1 ∧ P.2.2.1 ≤ 30) ∧ (1 ≤ P.2.2.2.1 ∧ P.2.2.2.1 ≤ 9) ∧ (1 ≤ P.2.2.2.2.1 ∧ P.2.2.2.2.1 ≤ 9) ∧ (0 ≤ P.2.2.2.2.2.1 ∧ P.2.2.2.2.2.1 ≤ 99) ∧ (0 ≤ P.2.2.2.2.2.2 ∧ P.2.2.2.2.2.2 ≤ 3)
def zP0 : zP := ([], [], 0, 1, 2, 99, 0)
def cPlan (σ : zM) (π : Nat) (P : zP) : Prop := σ π 5 = P.1.length ∧ (∀ (k : Nat) (p : Int × Int × Int), P.1[k]? = some p → σ (π + 1) k = p.1 ∧ σ (π + 2) k = p.2.1 ∧ σ (π + 3) k = p.2.2) ∧ (∀ (k : Nat) (x : Int × Int), (zod P.1)[k]? = some x → σ (π + 4) k = x.2) ∧ cCry σ (π + 5) P.2.1 ∧ (σ π 6 = P.2.2.1 ∧ σ π 7 = P.2.2.2.1 ∧ σ π 8 = P.2.2.2.2.1 ∧ σ π 9 = P.2.2.2.2.2.1 ∧ σ π 10 = P.2.2.2.2.2.2) ∧ zPok P
theorem cPlan_fr {σ σ' : zM} {π : Nat} {P : zP} (h : cPlan σ π P) (hf : ∀ c, π ≤ c → c ≤ π + 8 → ∀ i, σ' c i = σ c i) : cPlan σ' π P := by
  obtain ⟨h1, h2, h3, h4, h5, h6⟩ := h
  refine ⟨by rw [hf π (by omega) (by omega)]; exact h1, fun k p hk => ?_, fun k x hk => ?_, cCry_fr h4 (fun c a b i => hf c (by omega) (by omega) i), ?_, h6⟩
  · rw [hf (π + 1) (by omega) (by omega), hf (π + 2) (by omega) (by omega), hf (π + 3) (by omega) (by omega)]
    exact h2 k p hk
  · rw [hf (π + 4) (by omega) (by omega)]
    exact h3 k x hk
  · simp only [hf π (by omega) (by omega)]
    exact h5
theorem c_X4_clear (σ : zM) (π : Nat) (hp : zPl π) (l : List (Int × Int)) (hl : cCry σ (π + 5) l) : zCv mX4_clear (fun w => [zr w π]) σ (fun σ' => cPlan σ' π zP0 ∧ zfr π (π + 8) σ σ') := by
  refine zCv_mk (own := RX4) rfl (by decide +kernel) (fun w => [some (zr w π)]) (fun _ => rfl) (fun _ => Nat.le_of_ble_eq_true rfl) ?_
  intro Γ h hr
  refine z_raload_n h dX4_clear_0 rfl ?_
  refine z_iconst h dX4_clear_1 ?_
  refine y_put 5 h dX4_clear_2 fX4_34 pX4_5 (zPl_o hp) rfl rfl ?_
  refine z_raload_n h dX4_clear_5 rfl ?_
  refine z_getr h dX4_clear_6 fX4_27 (zPl_o hp) rfl ?_
  refine z_cVv0 h dX4_clear_9 lX4_38 vX0_clear rfl (zCy_o (zPl_c hp)) (c_X0_clear (zup σ π 5 0) (π + 5) (zPl_c hp) l (cCry_fr hl (fun c a b i => zup_ne (by omega)))) rfl (Nat.le_of_ble_eq_true rfl) (by decide) (fun σ1 h1 => ?_)
  obtain ⟨h1, h2⟩ := h1
  have e := (h2 π (by omega) 5).trans (zup_eq σ π 5 0)
  refine z_raload_n h dX4_clear_12 rfl ?_
  refine z_iconst h dX4_clear_13 ?_
  refine y_put 6 h dX4_clear_14 fX4_39 pX4_6 (zPl_o hp) rfl rfl ?_
  refine z_raload_n h dX4_clear_17 rfl ?_
  refine z_iconst h dX4_clear_18 ?_
  refine y_put 7 h dX4_clear_19 fX4_42 pX4_7 (zPl_o hp) rfl rfl ?_
  refine z_raload_n h dX4_clear_22 rfl ?_
  refine z_iconst h dX4_clear_23 ?_
  refine y_put 8 h dX4_clear_24 fX4_45 pX4_8 (zPl_o hp) rfl rfl ?_
  refine z_raload_n h dX4_clear_27 rfl ?_
  refine z_bipush h dX4_clear_28 (by decide) ?_
  refine y_put 9 h dX4_clear_30 fX4_48 pX4_9 (zPl_o hp) rfl rfl ?_
  refine z_raload_n h dX4_clear_33 rfl ?_
  refine z_iconst h dX4_clear_34 ?_
  refine y_put 10 h dX4_clear_35 fX4_51 pX4_10 (zPl_o hp) rfl rfl ?_
  refine z_irV h hr dX4_clear_38 ?_
  refine ⟨⟨?_, by simp [zP0], by simp [zP0, zod, zodl], cCry_fr h1 (fun c a b i => ?_), ⟨?_, ?_, ?_, ?_, ?_⟩, ?_⟩, ?_⟩
  · simp (disch := omega) only [zup_eq, zup_nei, zup_ne]
    exact e
  · simp (disch := omega) only [zup_ne]
  · simp (disch := omega) only [zup_eq, zup_nei, zup_ne]
    rfl
  · simp (disch := omega) only [zup_eq, zup_nei, zup_ne]
    rfl
  · simp (disch := omega) only [zup_eq, zup_nei, zup_ne]
    rfl
  · simp (disch := omega) only [zup_eq, zup_nei, zup_ne]
    rfl
  · simp (disch := omega) only [zup_eq, zup_nei, zup_ne]
    rfl
  · simp [zPok, zP0]
  · exact zfr_up (zfr_up (zfr_up (zfr_up (zfr_up (zfr_tr (zfr_up zfr_rf (by omega) (by omega)) (zfr_mono h2 (by omega) (by omega))) (by omega) (by omega)) (by omega) (by omega)) (by omega) (by omega)) (by omega) (by omega)) (by omega) (by omega)
theorem c_X4_isTold (σ : zM) (π : Nat) (hp : zPl π) (i : Int) (hi : -2147483648 ≤ i ∧ i ≤ 2147483647) (h5 : 0 ≤ σ π 5 ∧ σ π 5 ≤ 10) : zCi mX4_isTold (fun w => [zr w π, zi i]) σ (fun r σ' => r = (if 0 ≤ i ∧ i < σ π 5 then 1 else 0) ∧ σ' = σ) := by
  refine zCi_mk (own := RX4) rfl (by decide +kernel) (fun w => [some (zr w π), some (zi i)]) (fun _ => rfl) (fun _ => Nat.le_of_ble_eq_true rfl) ?_
  intro Γ h hr
  refine z_iload_n h dX4_isTold_0 rfl ?_
  refine z_if_lt h dX4_isTold_1 (by omega) (fun b1 => ?_) (fun b1 => ?_)
  · refine z_iconst h dX4_isTold_16 ?_
    refine z_irZ h hr dX4_isTold_17 (by first | decide | omega | simp_all) ?_
    refine ⟨?_, rfl⟩
    split <;> omega
  · refine z_iload_n h dX4_isTold_4 rfl ?_
    refine z_raload_n h dX4_isTold_5 rfl ?_
    refine y_get 5 h dX4_isTold_6 fX4_34 (zPl_o hp) rfl rfl ?_
    refine z_icmp_ge h dX4_isTold_9 (by omega) (by omega) (fun b9 => ?_) (fun b9 => ?_)
    · refine z_iconst h dX4_isTold_16 ?_
      refine z_irZ h hr dX4_isTold_17 (by first | decide | omega | simp_all) ?_
      refine ⟨?_, rfl⟩
      split <;> omega
    · refine z_iconst h dX4_isTold_12 ?_
      refine z_goto h dX4_isTold_13 ?_
      refine z_irZ h hr dX4_isTold_17 (by first | decide | omega | simp_all) ?_
      refine ⟨?_, rfl⟩
      split <;> omega
/-- the child of PERSON i -/
def pK (P : zP) (i : Int) : Int := if 0 ≤ i ∧ i < P.1.length then (P.1.getD i.toNat (0, 0, 0)).2.1 else 0
theorem c_X4_hasChild (σ : zM) (π : Nat) (hp : zPl π) (P : zP) (hP : cPlan σ π P) (i : Int) (hi : -2147483648 ≤ i ∧ i ≤ 2147483647) : zCi mX4_hasChild (fun w => [zr w π, zi i]) σ (fun r σ' => r = (if pK P i = 1 then 1 else 0) ∧ σ' = σ) := by
  refine zCi_mk (own := RX4) rfl (by decide +kernel) (fun w => [some (zr w π), some (zi i)]) (fun _ => rfl) (fun _ => Nat.le_of_ble_eq_true rfl) ?_
  intro Γ h hr
  obtain ⟨h1, h2, h3, h4, h5, h6⟩ := hP
  have h7 := h6.1
  refine z_raload_n h dX4_hasChild_0 rfl ?_
  refine z_iload_n h dX4_hasChild_1 rfl ?_
  refine z_cVi1 h dX4_hasChild_2 lX4_54 vX4_isTold rfl (zPl_o hp) (c_X4_isTold σ π hp i hi (by omega)) rfl (Nat.le_of_ble_eq_true rfl) (by decide) (fun v σ1 h8 => ?_)
  obtain ⟨rfl, rfl⟩ := h8
  by_cases hin : 0 ≤ i ∧ i < σ1 π 5
  rotate_left
  · rw [if_neg hin]
    refine z_if_eq h dX4_hasChild_5 (by omega) (fun b5 => ?_) (fun b5 => by omega)
    refine z_iconst h dX4_hasChild_22 ?_
    refine z_irZ h hr dX4_hasChild_23 (by decide) ?_
    unfold pK
    have e0 : (if 0 ≤ i ∧ i < (P.1.length : Int) then (P.1.getD i.toNat (0, 0, 0)).2.1 else 0) = 0 := if_neg (by rw [← h1]; exact hin)
    rw [e0]
    simp
  rw [if_pos hin]
  have hlt : i.toNat < P.1.length := by omega
  have h9 := h2 i.toNat P.1[i.toNat] (List.getElem?_eq_getElem hlt)
  rw [Int.toNat_of_nonneg hin.1] at h9
  have h10 := h6.2.1 _ (List.getElem_mem hlt)
  have h11 : pK P i = P.1[i.toNat].2.1 := by (unfold pK; rw [if_pos (by omega), List.getD_eq_getElem?_getD, List.getElem?_eq_getElem hlt]; rfl)
  refine z_if_eq h dX4_hasChild_5 (by omega) (fun b5 => by exfalso; omega) (fun b5 => ?_)
  refine z_raload_n h dX4_hasChild_8 rfl ?_
  refine z_getr h dX4_hasChild_9 fX4_15 (zPl_o hp) rfl ?_
  refine z_iload_n h dX4_hasChild_12 rfl ?_
  refine z_iald h dX4_hasChild_13 (zPl_2 hp) (by decide) (by omega) ?_
  refine z_iconst h dX4_hasChild_14 ?_
  refine z_icmp_ne h dX4_hasChild_15 (by omega) (by omega) (fun b15 => ?_) (fun b15 => ?_)
  · refine z_iconst h dX4_hasChild_22 ?_
    refine z_irZ h hr dX4_hasChild_23 (by first | decide | omega | simp_all) ?_
    refine ⟨?_, rfl⟩
    rw [h11, ← h9.2.1]
    split <;> omega
  · refine z_iconst h dX4_hasChild_18 ?_
    refine z_goto h dX4_hasChild_19 ?_
    refine z_irZ h hr dX4_hasChild_23 (by first | decide | omega | simp_all) ?_
    refine ⟨?_, rfl⟩
    rw [h11, ← h9.2.1]
    split <;> omega
theorem c_X4_addCry (σ : zM) (π : Nat) (hp : zPl π) (P : zP) (hP : cPlan σ π P) (i m : Int) (hm : -2147483648 ≤ m ∧ m ≤ 2147483647) (hi : 0 ≤ i ∧ i < P.1.length) : zCi mX4_addCry (fun w => [zr w π, zi i, zi m]) σ (fun r σ' => (P.2.1.length < 8 ∧ 0 ≤ m ∧ m < 100 ∧ r = 1 ∧ cPlan σ' π (P.1, P.2.1 ++ [(i, m)], P.2.2) ∧ zfr (π + 5) (π + 8) σ σ') ∨ (¬ (P.2.1.length < 8 ∧ 0 ≤ m ∧ m < 100) ∧ r = 0 ∧ σ' = σ)) := by
  refine zCi_mk (own := RX4) rfl (by decide +kernel) (fun w => [some (zr w π), some (zi i), some (zi m)]) (fun _ => rfl) (fun _ => Nat.le_of_ble_eq_true rfl) ?_
  intro Γ h hr
  refine z_raload_n h dX4_addCry_0 rfl ?_
  refine z_getr h dX4_addCry_1 fX4_27 (zPl_o hp) rfl ?_
  refine z_iload_n h dX4_addCry_4 rfl ?_
  refine z_iload_n h dX4_addCry_5 rfl ?_
  refine z_cVi2 h dX4_addCry_6 lX4_72 vX0_add rfl (zCy_o (zPl_c hp)) (c_X0_add σ (π + 5) (zPl_c hp) P.2.1 i m hm hP.2.2.2.1) rfl (Nat.le_of_ble_eq_true rfl) (by decide) (fun v σ1 h1 => ?_)
  have hv : v = 0 ∨ v = 1 := by (rcases h1 with h1 | h1 <;> simp [h1])
  refine z_irZ h hr dX4_addCry_9 (by first | decide | omega | simp_all) ?_
  rcases h1 with ⟨a1, a2, a3, a4, a5, a6⟩ | h1
  · refine Or.inl ⟨a1, a2, a3, a4, ?_, a6⟩
    obtain ⟨h1, h2, h3, h4, h5, h6, h7, h8, h9⟩ := hP
    have e : ∀ c, c < π + 5 → ∀ i, σ1 c i = σ c i := fun c hc i => a6 c (Or.inl hc) i
    refine ⟨by rw [e π (by omega)]; exact h1, fun k p hk => ?_, fun k x hk => ?_, a5, ?_, ⟨h6, h7, ?_, h9⟩⟩
    · rw [e (π + 1) (by omega), e (π + 2) (by omega), e (π + 3) (by omega)]; exact h2 k p hk
    · rw [e (π + 4) (by omega)]; exact h3 k x hk
    · simp only [e π (by omega)]; exact h5
    · intro c hc
      rcases List.mem_append.mp hc with hc | hc
      · exact h8 c hc
      · simp at hc; subst hc; exact hi
  · exact Or.inr h1
theorem c_X4_setService (σ : zM) (π : Nat) (hp : zPl π) (n d : Int) (hn : -2147483648 ≤ n ∧ n ≤ 2147483647) (hd : -2147483648 ≤ d ∧ d ≤ 2147483647) : zCi mX4_setService (fun w => [zr w π, zi n, zi d]) σ (fun r σ' => r = (if 1 ≤ n ∧ n ≤ 9 ∧ 1 ≤ d ∧ d ≤ 9 then 1 else 0) ∧ σ' = zup (zup σ π 7 n) π 8 d) := by
  refine zCi_mk (own := RX4) rfl (by decide +kernel) (fun w => [some (zr w π), some (zi n), some (zi d)]) (fun _ => rfl) (fun _ => Nat.le_of_ble_eq_true rfl) ?_
  intro Γ h hr
  refine z_raload_n h dX4_setService_0 rfl ?_
  refine z_iload_n h dX4_setService_1 rfl ?_
  refine y_put 7 h dX4_setService_2 fX4_42 pX4_7 (zPl_o hp) rfl rfl ?_
  refine z_raload_n h dX4_setService_5 rfl ?_
  refine z_iload_n h dX4_setService_6 rfl ?_
  refine y_put 8 h dX4_setService_7 fX4_45 pX4_8 (zPl_o hp) rfl rfl ?_
  refine z_iload_n h dX4_setService_10 rfl ?_
  refine z_iconst h dX4_setService_11 ?_
  refine z_icmp_lt h dX4_setService_12 (by omega) (by omega) (fun b12 => ?_) (fun b12 => ?_)
  · refine z_iconst h dX4_setService_36 ?_
    refine z_irZ h hr dX4_setService_37 (by first | decide | omega | simp_all) ?_
    refine ⟨?_, rfl⟩
    split <;> omega
  · refine z_iload_n h dX4_setService_15 rfl ?_
    refine z_bipush h dX4_setService_16 (by decide) ?_
    refine z_icmp_gt h dX4_setService_18 (by omega) (by omega) (fun b18 => ?_) (fun b18 => ?_)
    · refine z_iconst h dX4_setService_36 ?_
      refine z_irZ h hr dX4_setService_37 (by first | decide | omega | simp_all) ?_
      refine ⟨?_, rfl⟩
      split <;> omega
    · refine z_iload_n h dX4_setService_21 rfl ?_
      refine z_iconst h dX4_setService_22 ?_
      refine z_icmp_lt h dX4_setService_23 (by omega) (by omega) (fun b23 => ?_) (fun b23 => ?_)
      · refine z_iconst h dX4_setService_36 ?_
        refine z_irZ h hr dX4_setService_37 (by first | decide | omega | simp_all) ?_
        refine ⟨?_, rfl⟩
        split <;> omega
      · refine z_iload_n h dX4_setService_26 rfl ?_
        refine z_bipush h dX4_setService_27 (by decide) ?_
        refine z_icmp_gt h dX4_setService_29 (by omega) (by omega) (fun b29 => ?_) (fun b29 => ?_)
        · refine z_iconst h dX4_setService_36 ?_
          refine z_irZ h hr dX4_setService_37 (by first | decide | omega | simp_all) ?_
          refine ⟨?_, rfl⟩
          split <;> omega
        · refine z_iconst h dX4_setService_32 ?_
          refine z_goto h dX4_setService_33 ?_
          refine z_irZ h hr dX4_setService_37 (by first | decide | omega | simp_all) ?_
          refine ⟨?_, rfl⟩
          split <;> omega
theorem cPlan_add {σ σ' : zM} {π : Nat} {P : zP} {a k b : Int} {j : Nat} (hP : cPlan σ π P) (hlt : P.1.length < 10) (hab : 0 ≤ a ∧ a ≤ 99 ∧ (k = 0 ∨ k = 1) ∧ 1 ≤ b ∧ b ≤ 99) (hj : j ≤ P.1.length) (h1 : ∀ x, (zod P.1)[j - 1]? = some x → 0 < j → x.1 ≤ a) (h2 : ∀ k x, (zod P.1)[k]? = some x → j ≤ k → a < x.1)
    (e5 : σ' π 5 = P.1.length + 1) (eo : ∀ i, i ≠ 5 → σ' π i = σ π i) (e1 : ∀ i : Int, σ' (π + 1) i = if i = P.1.length then a else σ (π + 1) i) (e2 : ∀ i : Int, σ' (π + 2) i = if i = P.1.length then k else σ (π + 2) i) (e3 : ∀ i : Int, σ' (π + 3) i = if i = P.1.length then b else σ (π + 3) i)
    (e4a : ∀ i : Nat, i < j → σ' (π + 4) i = σ (π + 4) i) (e4b : σ' (π + 4) j = P.1.length) (e4c : ∀ i : Nat, j ≤ i → i < P.1.length → σ' (π + 4) (i + 1) = σ (π + 4) i) (ec : ∀ c, π + 5 ≤ c → c ≤ π + 8 → ∀ i, σ' c i = σ c i) : cPlan σ' π (P.1 ++ [(a, k, b)], P.2) := by
  obtain ⟨q1, q2, q3, q4, q5, q6⟩ := hP
  refine ⟨by rw [e5]; simp, fun i p hi => ?_, fun i x hi => ?_, cCry_fr q4 (fun c a b i => ec c a (by omega) i), ?_, ?_⟩
  · rw [e1, e2, e3]
    by_cases hil : i < P.1.length
    · rw [List.getElem?_append_left hil] at hi
      rw [if_neg (by omega), if_neg (by omega), if_neg (by omega)]
      exact q2 i p hi
    · have := (List.getElem?_eq_some_iff.mp hi).1
      simp at this
      have e : i = P.1.length := by omega
      subst e
      simp at hi
      subst hi
      simp
  · have hi' : (zod (P.1 ++ [(a, k, b)]))[i]? = some x := hi
    rw [zod_app, zod_split P.1 a j (by rw [zod_len]; exact hj) h1 h2] at hi'
    have hl : ((zod P.1).take j).length = j := by rw [List.length_take, zod_len]; omega
    rcases Nat.lt_trichotomy i j with h | h | h
    · rw [List.getElem?_append_left (by omega), List.getElem?_take, if_pos h] at hi'
      rw [e4a i h]
      exact q3 i x hi'
    · subst h
      rw [List.getElem?_append_right (by omega), hl, Nat.sub_self] at hi'
      cases hi'
      exact e4b
    · rw [List.getElem?_append_right (by omega), hl, show i - j = (i - 1 - j) + 1 by omega, List.getElem?_cons_succ, List.getElem?_drop, show j + (i - 1 - j) = i - 1 by omega] at hi'
      have hz := (List.getElem?_eq_some_iff.mp hi').1
      rw [zod_len] at hz
      have := e4c (i - 1) (by omega) hz
      rw [show ((i - 1 : Nat) : Int) + 1 = i by omega] at this
      rw [this]
      exact q3 (i - 1) x hi'
  · rw [eo 6 (by omega), eo 7 (by omega), eo 8 (by omega), eo 9 (by omega), eo 10 (by omega)]
    exact q5
  · refine ⟨by simp; omega, fun p hp => ?_, fun c hc => ?_, q6.2.2.2⟩
    · rcases List.mem_append.mp hp with hp | hp
      · exact q6.2.1 p hp
      · simp at hp; subst hp; exact hab
    · have := q6.2.2.1 c hc
      simp
      omega
theorem c_X4_addPerson (σ : zM) (π : Nat) (hp : zPl π) (P : zP) (hP : cPlan σ π P) (a k b : Int) (ha : 0 ≤ a ∧ a ≤ 99) (hk : 0 ≤ k ∧ k ≤ 99) (hb : 0 ≤ b ∧ b ≤ 99) : zCi mX4_addPerson (fun w => [zr w π, zi a, zi k, zi b]) σ (fun r σ' => (P.1.length < 10 ∧ k ≤ 1 ∧ 1 ≤ b ∧ r = 1 ∧ cPlan σ' π (P.1 ++ [(a, k, b)], P.2) ∧ zfr π (π + 4) σ σ') ∨ (¬ (P.1.length < 10 ∧ k ≤ 1 ∧ 1 ≤ b) ∧ r = 0 ∧ σ' = σ)) := by
  refine zCi_mk (own := RX4) rfl (by decide +kernel) (fun w => [some (zr w π), some (zi a), some (zi k), some (zi b), none]) (fun _ => rfl) (fun _ => Nat.le_of_ble_eq_true rfl) ?_
  intro Γ h hr
  have q1 := hP.1
  have q2 := hP.2.1
  have q3 := hP.2.2.1
  have q6 := hP.2.2.2.2.2
  have q7 := q6.1
  have L : ∀ (j : Nat) (σ1 : zM), P.1.length < 10 → k ≤ 1 → 1 ≤ b → j ≤ P.1.length → (∀ c, c ≠ π + 4 → ∀ i, σ1 c i = zup (zup (zup σ (π + 1) (σ π 5) a) (π + 2) (σ π 5) k) (π + 3) (σ π 5) b c i) → (∀ i : Nat, i < j → σ1 (π + 4) i = σ (π + 4) i) → (∀ i : Nat, j ≤ i → i < P.1.length → σ1 (π + 4) (i + 1) = σ (π + 4) i) → (∀ k x, (zod P.1)[k]? = some x → j ≤ k → a < x.1) → zV Γ σ1 57 [some (zr (zw Γ) π), some (zi a), some (zi k), some (zi b), some (zi j)] [] := by
    intro j
    induction j with
    | zero =>
      intro σ1 r1 r2 r3 hj ho h1 h2 h3
      have e5 : σ1 π 5 = P.1.length := by rw [ho π (by omega)]; simp (disch := omega) only [zup_ne]; exact q1
      refine z_iload h dX4_addPerson_57 rfl ?_
      refine z_if_le h dX4_addPerson_59 (by omega) (fun b59 => ?_) (fun b59 => by exfalso; omega)
      refine z_raload_n h dX4_addPerson_102 rfl ?_
      refine z_getr h dX4_addPerson_103 fX4_21 (zPl_o hp) rfl ?_
      refine z_iload h dX4_addPerson_106 rfl ?_
      refine z_raload_n h dX4_addPerson_108 rfl ?_
      refine y_get 5 h dX4_addPerson_109 fX4_34 (zPl_o hp) rfl rfl ?_
      refine z_iast h dX4_addPerson_112 (zPl_4 hp) (by decide) (by omega) ?_
      refine z_raload_n h dX4_addPerson_113 rfl ?_
      refine z_dup h dX4_addPerson_114 rfl ?_
      refine y_get 5 h dX4_addPerson_115 fX4_34 (zPl_o hp) rfl rfl ?_
      try simp (disch := omega) only [zup_eq, zup_ne, zup_nei]
      refine z_iconst h dX4_addPerson_118 ?_
      refine z_iadd h dX4_addPerson_119 ?_
      refine y_put 5 h dX4_addPerson_120 fX4_34 pX4_5 (zPl_o hp) rfl rfl ?_
      refine z_iconst h dX4_addPerson_123 ?_
      refine z_irZ h hr dX4_addPerson_124 (by first | decide | omega | simp_all) ?_
      refine Or.inl ⟨r1, r2, r3, rfl, cPlan_add (j := 0) hP r1 (by omega) (by omega) (fun x _ h => by omega) h3 ?_ ?_ ?_ ?_ ?_ (fun i hi => by omega) ?_ ?_ ?_, ?_⟩
      · rw [zup_eq, e5]
      · intro i hi; rw [zup_nei hi, zup_ne (by omega), ho π (by omega)]; simp (disch := omega) only [zup_ne]
      · intro i; rw [zup_ne (by omega), zup_ne (by omega), ho _ (by omega)]; simp (disch := omega) only [zup_ne]; rw [zup, q1]; simp
      · intro i; rw [zup_ne (by omega), zup_ne (by omega), ho _ (by omega)]; simp (disch := omega) only [zup_ne]; rw [zup, q1]; simp (disch := omega) only [zup_ne]; simp
      · intro i; rw [zup_ne (by omega), zup_ne (by omega), ho _ (by omega)]; rw [zup, q1]; simp (disch := omega) only [zup_ne]; simp
      · rw [zup_ne (by omega), zup_eqi (by simp), e5]
      · intro i h4 h5; rw [zup_ne (by omega), zup_nei (by omega)]; exact h2 i h4 h5
      · intro c h4 h5 i; rw [zup_ne (by omega), zup_ne (by omega), ho c (by omega)]; simp (disch := omega) only [zup_ne]
      · intro c hc i; rw [zup_ne (by omega), zup_ne (by omega), ho c (by omega)]; simp (disch := omega) only [zup_ne]
    | succ j ih =>
      intro σ1 r1 r2 r3 hj ho h1 h2 h3
      have e5 : σ1 π 5 = P.1.length := by rw [ho π (by omega)]; simp (disch := omega) only [zup_ne]; exact q1
      have hlt : j < (zod P.1).length := by rw [zod_len]; omega
      have hx := List.getElem?_eq_getElem hlt
      obtain ⟨x, hxe⟩ : ∃ x, x = (zod P.1)[j] := ⟨_, rfl⟩
      rw [← hxe] at hx
      obtain ⟨g1, p, g2, g3⟩ := zod_mem P.1 x (List.mem_of_getElem? hx)
      have g4 := (List.getElem?_eq_some_iff.mp g2).1
      have g5 := q2 _ p g2
      rw [Int.toNat_of_nonneg g1] at g5
      have g6 : σ1 (π + 4) j = x.2 := by rw [h1 j (by omega)]; exact q3 j x hx
      have g7 : σ1 (π + 1) x.2 = x.1 := by rw [ho _ (by omega)]; simp (disch := omega) only [zup_ne, zup_nei]; rw [g5.1, g3]
      have g8 := (q6.2.1 p (List.mem_of_getElem? g2))
      have ej : ((j + 1 : Nat) : Int) - 1 = j := by omega
      refine z_iload h dX4_addPerson_57 rfl ?_
      refine z_if_le h dX4_addPerson_59 (by omega) (fun b59 => by exfalso; omega) (fun b59 => ?_)
      refine z_raload_n h dX4_addPerson_62 rfl ?_
      refine z_getr h dX4_addPerson_63 fX4_9 (zPl_o hp) rfl ?_
      refine z_raload_n h dX4_addPerson_66 rfl ?_
      refine z_getr h dX4_addPerson_67 fX4_21 (zPl_o hp) rfl ?_
      refine z_iload h dX4_addPerson_70 rfl ?_
      refine z_iconst h dX4_addPerson_72 ?_
      refine z_isub h dX4_addPerson_73 ?_
      rw [ej]
      refine z_iald h dX4_addPerson_74 (zPl_4 hp) (by decide) (by omega) ?_
      rw [g6]
      refine z_iald h dX4_addPerson_75 (zPl_1 hp) (by decide) (by omega) ?_
      rw [g7]
      refine z_iload_n h dX4_addPerson_76 rfl ?_
      refine z_icmp_le h dX4_addPerson_77 (by omega) (by omega) (fun b77 => ?_) (fun b77 => ?_)
      · refine z_raload_n h dX4_addPerson_102 rfl ?_
        refine z_getr h dX4_addPerson_103 fX4_21 (zPl_o hp) rfl ?_
        refine z_iload h dX4_addPerson_106 rfl ?_
        refine z_raload_n h dX4_addPerson_108 rfl ?_
        refine y_get 5 h dX4_addPerson_109 fX4_34 (zPl_o hp) rfl rfl ?_
        refine z_iast h dX4_addPerson_112 (zPl_4 hp) (by decide) (by omega) ?_
        refine z_raload_n h dX4_addPerson_113 rfl ?_
        refine z_dup h dX4_addPerson_114 rfl ?_
        refine y_get 5 h dX4_addPerson_115 fX4_34 (zPl_o hp) rfl rfl ?_
        try simp (disch := omega) only [zup_eq, zup_ne, zup_nei]
        refine z_iconst h dX4_addPerson_118 ?_
        refine z_iadd h dX4_addPerson_119 ?_
        refine y_put 5 h dX4_addPerson_120 fX4_34 pX4_5 (zPl_o hp) rfl rfl ?_
        refine z_iconst h dX4_addPerson_123 ?_
        refine z_irZ h hr dX4_addPerson_124 (by first | decide | omega | simp_all) ?_
        refine Or.inl ⟨r1, r2, r3, rfl, cPlan_add (j := j + 1) hP r1 (by omega) (by omega) (fun y hy _ => by rw [Nat.add_sub_cancel, hx] at hy; cases hy; omega) h3 ?_ ?_ ?_ ?_ ?_ ?_ ?_ ?_ ?_, ?_⟩
        · rw [zup_eq, e5]
        · intro i hi; rw [zup_nei hi, zup_ne (by omega), ho π (by omega)]; simp (disch := omega) only [zup_ne]
        · intro i; rw [zup_ne (by omega), zup_ne (by omega), ho _ (by omega)]; simp (disch := omega) only [zup_ne]; rw [zup, q1]; simp
        · intro i; rw [zup_ne (by omega), zup_ne (by omega), ho _ (by omega)]; simp (disch := omega) only [zup_ne]; rw [zup, q1]; simp (disch := omega) only [zup_ne]; simp
        · intro i; rw [zup_ne (by omega), zup_ne (by omega), ho _ (by omega)]; rw [zup, q1]; simp (disch := omega) only [zup_ne]; simp
        · intro i hi; rw [zup_ne (by omega), zup_nei (by omega)]; exact h1 i hi
        · rw [zup_ne (by omega), zup_eqi rfl, e5]
        · intro i h4 h5; rw [zup_ne (by omega), zup_nei (by omega)]; exact h2 i h4 h5
        · intro c h4 h5 i; rw [zup_ne (by omega), zup_ne (by omega), ho c (by omega)]; simp (disch := omega) only [zup_ne]
        · intro c hc i; rw [zup_ne (by omega), zup_ne (by omega), ho c (by omega)]; simp (disch := omega) only [zup_ne]
      · refine z_raload_n h dX4_addPerson_80 rfl ?_
        refine z_getr h dX4_addPerson_81 fX4_21 (zPl_o hp) rfl ?_
        refine z_iload h dX4_addPerson_84 rfl ?_
        refine z_raload_n h dX4_addPerson_86 rfl ?_
        refine z_getr h dX4_addPerson_87 fX4_21 (zPl_o hp) rfl ?_
        refine z_iload h dX4_addPerson_90 rfl ?_
        refine z_iconst h dX4_addPerson_92 ?_
        refine z_isub h dX4_addPerson_93 ?_
        rw [ej]
        refine z_iald h dX4_addPerson_94 (zPl_4 hp) (by decide) (by omega) ?_
        rw [g6]
        refine z_iast h dX4_addPerson_95 (zPl_4 hp) (by decide) (by omega) ?_
        refine z_iinc h dX4_addPerson_96 (by decide) rfl (zst1_4 rfl) ?_
        refine z_goto h dX4_addPerson_99 ?_
        rw [show ((j + 1 : Nat) : Int) + -1 = j by omega]
        refine ih _ r1 r2 r3 (by omega) (fun c hc i => by rw [zup_ne hc]; exact ho c hc i) (fun i hi => by rw [zup_nei (by omega)]; exact h1 i (by omega)) (fun i hi hi2 => ?_) (fun k y hk hk2 => ?_)
        · by_cases e : i = j
          · subst e; rw [zup_eqi (by omega), ← q3 i x hx]
          · rw [zup_nei (by omega)]; exact h2 i (by omega) hi2
        · by_cases e : k = j
          · subst e; rw [hx] at hk; cases hk; omega
          · exact h3 k y hk (by omega)
  refine z_raload_n h dX4_addPerson_0 rfl ?_
  refine y_get 5 h dX4_addPerson_1 fX4_34 (zPl_o hp) rfl rfl ?_
  refine z_bipush h dX4_addPerson_4 (by decide) ?_
  refine z_icmp_ge h dX4_addPerson_6 (by omega) (by omega) (fun b6 => ?_) (fun b6 => ?_)
  · refine z_iconst h dX4_addPerson_19 ?_
    refine z_irZ h hr dX4_addPerson_20 (by first | decide | omega | simp_all) ?_
    exact Or.inr ⟨by omega, rfl, rfl⟩
  · refine z_iload_n h dX4_addPerson_9 rfl ?_
    refine z_iconst h dX4_addPerson_10 ?_
    refine z_icmp_gt h dX4_addPerson_11 (by omega) (by omega) (fun b11 => ?_) (fun b11 => ?_)
    · refine z_iconst h dX4_addPerson_19 ?_
      refine z_irZ h hr dX4_addPerson_20 (by first | decide | omega | simp_all) ?_
      exact Or.inr ⟨by omega, rfl, rfl⟩
    · refine z_iload_n h dX4_addPerson_14 rfl ?_
      refine z_iconst h dX4_addPerson_15 ?_
      refine z_icmp_ge h dX4_addPerson_16 (by omega) (by omega) (fun b16 => ?_) (fun b16 => ?_)
      · refine z_raload_n h dX4_addPerson_21 rfl ?_
        refine z_getr h dX4_addPerson_22 fX4_9 (zPl_o hp) rfl ?_
        refine z_raload_n h dX4_addPerson_25 rfl ?_
        refine y_get 5 h dX4_addPerson_26 fX4_34 (zPl_o hp) rfl rfl ?_
        refine z_iload_n h dX4_addPerson_29 rfl ?_
        refine z_iast h dX4_addPerson_30 (zPl_1 hp) (by decide) (by omega) ?_
        refine z_raload_n h dX4_addPerson_31 rfl ?_
        refine z_getr h dX4_addPerson_32 fX4_15 (zPl_o hp) rfl ?_
        refine z_raload_n h dX4_addPerson_35 rfl ?_
        refine y_get 5 h dX4_addPerson_36 fX4_34 (zPl_o hp) rfl rfl ?_
        try simp (disch := omega) only [zup_eq, zup_ne, zup_nei]
        refine z_iload_n h dX4_addPerson_39 rfl ?_
        refine z_iast h dX4_addPerson_40 (zPl_2 hp) (by decide) (by omega) ?_
        refine z_raload_n h dX4_addPerson_41 rfl ?_
        refine z_getr h dX4_addPerson_42 fX4_18 (zPl_o hp) rfl ?_
        refine z_raload_n h dX4_addPerson_45 rfl ?_
        refine y_get 5 h dX4_addPerson_46 fX4_34 (zPl_o hp) rfl rfl ?_
        try simp (disch := omega) only [zup_eq, zup_ne, zup_nei]
        refine z_iload_n h dX4_addPerson_49 rfl ?_
        refine z_iast h dX4_addPerson_50 (zPl_3 hp) (by decide) (by omega) ?_
        refine z_raload_n h dX4_addPerson_51 rfl ?_
        refine y_get 5 h dX4_addPerson_52 fX4_34 (zPl_o hp) rfl rfl ?_
        try simp (disch := omega) only [zup_eq, zup_ne, zup_nei]
        refine z_ist1 h dX4_addPerson_55 (by decide) (zst1_4 rfl) ?_
        rw [q1]
        refine L P.1.length _ (by omega) (by omega) (by omega) (Nat.le_refl _) (fun c _ i => by rw [q1]) (fun i hi => by simp (disch := omega) only [zup_ne]) (fun i hi hi2 => by omega) (fun k x hk hk2 => ?_)
        have := (List.getElem?_eq_some_iff.mp hk).1
        rw [zod_len] at this
        omega
      · refine z_iconst h dX4_addPerson_19 ?_
        refine z_irZ h hr dX4_addPerson_20 (by first | decide | omega | simp_all) ?_
        exact Or.inr ⟨by omega, rfl, rfl⟩
