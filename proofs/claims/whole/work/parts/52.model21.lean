/-! ===== odds by counts out of tens ===== -/
def oU (x : Int) : Nat → Nat → Int
  | 0, _ => 0
  | a + 1, k => x * (if a - k = 0 then 0 else oU x a (a - k - 1) + 10 ^ a) + (10 - x) * (if k = 0 then 0 else oU x a (k - 1) + 10 ^ a)
def oV (x : Int) : Nat → Int → Nat → Int
  | 0, _, _ => 0
  | a + 1, left, k => if left < 0 then 0 else x * (if a - k = 0 then 10 ^ a else oV x a (left - 1) (a - k - 1)) + (10 - x) * (if k = 0 then 10 ^ a else oV x a (left - 1) (k - 1))
theorem oU_M : ∀ n : Fin 10, ∀ k : Fin 9, ∀ x : Fin 11, k.val < n.val → oM n.val k.val x.val = oU x.val n.val k.val * 10 ^ (9 - n.val) := by decide +kernel
theorem oV_C : ∀ n : Fin 10, ∀ k : Fin 9, ∀ x : Fin 11, ∀ m : Fin 9, k.val < n.val → oC n.val k.val x.val m.val = oV x.val n.val m.val k.val * 10 ^ (9 - n.val) := by decide +kernel
theorem oU_rg : ∀ n : Fin 10, ∀ k : Fin 9, ∀ x : Fin 11, k.val < n.val → 0 ≤ oU x.val n.val k.val ∧ oU x.val n.val k.val ≤ 10000000000 := by decide +kernel
theorem oV_rg : ∀ n : Fin 10, ∀ k : Fin 9, ∀ x : Fin 11, ∀ m : Fin 9, k.val < n.val → 0 ≤ oV x.val n.val m.val k.val ∧ oV x.val n.val m.val k.val ≤ 10000000000 := by decide +kernel
theorem oLow_sc {a b c : Int} (hc : 0 < c) (pt : Int) : oLow (a * c) (b * c) pt = oLow a b pt := by
  have hg : ((Int.gcd (a * c) (b * c) : Nat) : Int) = (Int.gcd a b : Nat) * c := by
    rw [Int.gcd_mul_right, Int.natCast_mul, Int.natAbs_of_nonneg (by omega)]
  unfold oLow
  rw [hg, Int.mul_ediv_mul_of_pos_left _ _ hc, Int.mul_ediv_mul_of_pos_left _ _ hc]
theorem ten9 {n : Nat} (hn : n ≤ 9) : (1000000000 : Int) = 10 ^ n * 10 ^ (9 - n) := by
  rw [← Int.pow_add, show n + (9 - n) = 9 by omega]
  rfl
theorem ten_p (n : Nat) : (0 : Int) < 10 ^ n := Int.pow_pos (by decide)
theorem ten_le {n : Nat} (h : n ≤ 9) : (10 : Int) ^ n ≤ 1000000000 := by
  have : ∀ n : Fin 10, (10 : Int) ^ n.val ≤ 1000000000 := by decide
  exact this ⟨n, by omega⟩
theorem c_X8_tens (σ : zM) (n : Nat) (hn : n ≤ 9) : zCl mX8_tens (fun _ => [zi n]) σ (fun r σ' => r = 10 ^ n ∧ σ' = σ) := by
  refine zCl_mk (own := RX8) rfl (by decide +kernel) (fun w => [some (zi n), none, none, none]) (fun _ => rfl) (fun _ => Nat.le_of_ble_eq_true rfl) ?_
  intro Γ h hr
  have L : ∀ (m k : Nat), k + m = n → zV Γ σ 4 [some (zi n), some (zl (10 ^ k)), none, some (zi k)] [] := by
    intro m
    induction m with
    | zero =>
      intro k h1
      have e : k = n := by omega
      subst e
      refine z_iload_n h dX8_tens_4 rfl ?_
      refine z_iload_n h dX8_tens_5 rfl ?_
      refine z_icmp_ge h dX8_tens_6 (by omega) (by omega) (fun b6 => ?_) (fun b6 => by exfalso; omega)
      refine z_lload_n h dX8_tens_21 rfl ?_
      refine z_irL h hr dX8_tens_22 ?_
      exact ⟨rfl, rfl⟩
    | succ m ih =>
      intro k h1
      refine z_iload_n h dX8_tens_4 rfl ?_
      refine z_iload_n h dX8_tens_5 rfl ?_
      refine z_icmp_ge h dX8_tens_6 (by omega) (by omega) (fun b6 => by exfalso; omega) (fun b6 => ?_)
      refine z_lload_n h dX8_tens_9 rfl ?_
      refine z_ldc2 (x := 10) h dX8_tens_10 kX8_232 (by decide) ?_
      refine z_lmul h dX8_tens_13 ?_
      refine z_lst_n h dX8_tens_14 (by decide) (zst2_1 rfl) ?_
      refine z_iinc h dX8_tens_15 (by decide) rfl (zst1_3 rfl) ?_
      refine z_goto h dX8_tens_18 ?_
      rw [show (k : Int) + 1 = ((k + 1 : Nat) : Int) by omega]
      exact ih (k + 1) (by omega)
  refine z_lconst (x := 1) h dX8_tens_0 (by decide) ?_
  refine z_lst_n h dX8_tens_1 (by decide) (zst2_1 rfl) ?_
  refine z_iconst h dX8_tens_2 ?_
  refine z_ist1_n h dX8_tens_3 (by decide) (zst1_3 rfl) ?_
  exact L n 0 (by omega)
theorem c_X8_lowest (σ : zM) (a b pt : Int) (ha : 0 ≤ a ∧ a ≤ 10000000000) (hb : 0 < b ∧ b ≤ 10000000000) (hpt : pt = 0 ∨ pt = 1) : zCl mX8_lowest (fun _ => [zl a, zl b, zi pt]) σ (fun r σ' => r = oLow a b pt ∧ σ' = σ) := by
  refine zCl_mk (own := RX8) rfl (by decide +kernel) (fun w => [some (zl a), none, some (zl b), none, some (zi pt), none, none, none, none, none, none]) (fun _ => rfl) (fun _ => Nat.le_of_ble_eq_true rfl) ?_
  intro Γ h hr
  have E : ∀ (x : Nat) (l9 l10 : Option Value), 0 < x → x ≤ 10000000000 → Int.gcd a b = x → zV Γ σ 6 [some (zl a), none, some (zl b), none, some (zi pt), some (zl x), none, some (zl 0), none, l9, l10] [] := by
    intro x l9 l10 h1 h2 h3
    have hz : zcmp (0 : Int) 0 = 0 := by decide
    refine z_lload h dX8_lowest_6 rfl ?_
    refine z_lconst (x := 0) h dX8_lowest_8 (by decide) ?_
    refine z_lcmp h dX8_lowest_9 (by omega) (by omega) ?_
    rw [hz]
    refine z_if_eq h dX8_lowest_10 (by omega) (fun b10 => ?_) (fun b10 => by exfalso; omega)
    refine z_iload h dX8_lowest_31 rfl ?_
    refine z_if_ne h dX8_lowest_33 (by omega) (fun b33 => ?_) (fun b33 => ?_)
    · refine z_lload_n h dX8_lowest_43 rfl ?_
      refine z_lload h dX8_lowest_44 rfl ?_
      refine z_ldiv h dX8_lowest_46 (by omega) (by omega) ?_
      refine z_irL h hr dX8_lowest_47 ?_
      unfold oLow
      rw [h3]
      rcases hpt with rfl | rfl
      · first | exact ⟨rfl, rfl⟩ | (exfalso; omega)
      · first | exact ⟨rfl, rfl⟩ | (exfalso; omega)
    · refine z_lload_n h dX8_lowest_36 rfl ?_
      refine z_lload h dX8_lowest_37 rfl ?_
      refine z_ldiv h dX8_lowest_39 (by omega) (by omega) ?_
      refine z_goto h dX8_lowest_40 ?_
      refine z_irL h hr dX8_lowest_47 ?_
      unfold oLow
      rw [h3]
      rcases hpt with rfl | rfl
      · first | exact ⟨rfl, rfl⟩ | (exfalso; omega)
      · first | exact ⟨rfl, rfl⟩ | (exfalso; omega)
  have S : ∀ (x y : Nat) (l9 l10 : Option Value), 0 < y → x ≤ 10000000000 → y ≤ 10000000000 → (∀ l9' l10', zV Γ σ 6 [some (zl a), none, some (zl b), none, some (zi pt), some (zl y), none, some (zl ((x % y : Nat) : Int)), none, l9', l10'] []) → zV Γ σ 6 [some (zl a), none, some (zl b), none, some (zi pt), some (zl x), none, some (zl y), none, l9, l10] [] := by
    intro x y l9 l10 h1 h2 h3 kk
    have hz : zcmp (y : Int) 0 = 1 := by unfold zcmp; rw [if_pos (by omega)]
    refine z_lload h dX8_lowest_6 rfl ?_
    refine z_lconst (x := 0) h dX8_lowest_8 (by decide) ?_
    refine z_lcmp h dX8_lowest_9 (by omega) (by omega) ?_
    rw [hz]
    refine z_if_eq h dX8_lowest_10 (by omega) (fun b10 => by exfalso; omega) (fun b10 => ?_)
    refine z_lload h dX8_lowest_13 rfl ?_
    refine z_lload h dX8_lowest_15 rfl ?_
    refine z_lrem h dX8_lowest_17 (by omega) (by omega) ?_
    refine z_lst h dX8_lowest_18 (by decide) (zst2_9 rfl) ?_
    refine z_lload h dX8_lowest_20 rfl ?_
    refine z_lst h dX8_lowest_22 (by decide) (zst2_5 rfl) ?_
    refine z_lload h dX8_lowest_24 rfl ?_
    refine z_lst h dX8_lowest_26 (by decide) (zst2_7 rfl) ?_
    refine z_goto h dX8_lowest_28 ?_
    exact kk _ _
  have L : ∀ (y x : Nat) (l9 l10 : Option Value), x ≤ 10000000000 → y ≤ 10000000000 → 0 < x + y → Nat.gcd x y = Int.gcd a b → zV Γ σ 6 [some (zl a), none, some (zl b), none, some (zi pt), some (zl x), none, some (zl y), none, l9, l10] [] := by
    intro y
    induction y using Nat.strongRecOn with
    | _ y ih =>
      intro x l9 l10 h1 h2 h3 h4
      by_cases e : y = 0
      · subst e
        rw [Nat.gcd_zero_right] at h4
        exact E x l9 l10 (by omega) h1 h4.symm
      · refine S x y l9 l10 (by omega) h1 h2 (fun l9' l10' => ?_)
        have hlt : x % y < y := Nat.mod_lt _ (by omega)
        exact ih (x % y) hlt y l9' l10' h2 (by omega) (by omega) (by rw [← h4, Nat.gcd_comm x y, Nat.gcd_rec y x, Nat.gcd_comm])
  obtain ⟨an, rfl⟩ := Int.eq_ofNat_of_zero_le ha.1
  obtain ⟨bn, rfl⟩ := Int.eq_ofNat_of_zero_le (show 0 ≤ b by omega)
  refine z_lload_n h dX8_lowest_0 rfl ?_
  refine z_lst h dX8_lowest_1 (by decide) (zst2_5 rfl) ?_
  refine z_lload_n h dX8_lowest_3 rfl ?_
  refine z_lst h dX8_lowest_4 (by decide) (zst2_7 rfl) ?_
  exact L bn an none none (by omega) (by omega) (by omega) rfl
theorem c_X8_areOf (σ : zM) (n x : Int) (hn : zok n) (hx : zok x) : zCi mX8_areOf (fun _ => [zi n, zi x]) σ (fun r σ' => ((r = 1 ∧ 1 ≤ n ∧ n ≤ 9 ∧ 0 ≤ x ∧ x ≤ 10) ∨ (r = 0 ∧ ¬ (1 ≤ n ∧ n ≤ 9 ∧ 0 ≤ x ∧ x ≤ 10))) ∧ σ' = σ) := by
  refine zCi_mk (own := RX8) rfl (by decide +kernel) (fun w => [some (zi n), some (zi x)]) (fun _ => rfl) (fun _ => Nat.le_of_ble_eq_true rfl) ?_
  intro Γ h hr
  unfold zok at hn hx
  refine z_iload_n h dX8_areOf_0 rfl ?_
  refine z_i2l h dX8_areOf_1 (by omega) ?_
  refine z_lconst (x := 1) h dX8_areOf_2 (by decide) ?_
  refine z_ldc2 (x := 9) h dX8_areOf_3 kX8_110 (by decide) ?_
  refine z_cSi3 h dX8_areOf_6 lX8_83 vX8_in (c_X8_in _ n (1) (9) (by unfold zlo; omega) (by unfold zlo; omega) (by unfold zlo; omega)) rfl (Nat.le_of_ble_eq_true rfl) (by decide) (fun v1 σ1 g1 => ?_)
  obtain ⟨g1, e1⟩ := g1
  rw [e1]
  refine z_if_eq h dX8_areOf_9 (by omega) (fun b9 => ?_) (fun b9 => ?_)
  · refine z_iconst h dX8_areOf_28 ?_
    refine z_irZ h hr dX8_areOf_29 (by first | decide | omega | simp_all) ?_
    exact ⟨by omega, rfl⟩
  · refine z_iload_n h dX8_areOf_12 rfl ?_
    refine z_i2l h dX8_areOf_13 (by omega) ?_
    refine z_lconst (x := 0) h dX8_areOf_14 (by decide) ?_
    refine z_ldc2 (x := 10) h dX8_areOf_15 kX8_232 (by decide) ?_
    refine z_cSi3 h dX8_areOf_18 lX8_83 vX8_in (c_X8_in _ x (0) (10) (by unfold zlo; omega) (by unfold zlo; omega) (by unfold zlo; omega)) rfl (Nat.le_of_ble_eq_true rfl) (by decide) (fun v2 σ2 g2 => ?_)
    obtain ⟨g2, e2⟩ := g2
    rw [e2]
    refine z_if_eq h dX8_areOf_21 (by omega) (fun b21 => ?_) (fun b21 => ?_)
    · refine z_iconst h dX8_areOf_28 ?_
      refine z_irZ h hr dX8_areOf_29 (by first | decide | omega | simp_all) ?_
      exact ⟨by omega, rfl⟩
    · refine z_iconst h dX8_areOf_24 ?_
      refine z_goto h dX8_areOf_25 ?_
      refine z_irZ h hr dX8_areOf_29 (by first | decide | omega | simp_all) ?_
      exact ⟨by omega, rfl⟩
