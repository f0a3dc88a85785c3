/-! ===== the reference's odds ===== -/
def oBh (f : Nat → Nat → Int) (a k : Nat) (m : Int) : Int := if k = 0 then (if m < 0 then 0 else 10 ^ (a - 1)) else f (a - 1) (k - 1) + (if m < 0 then 10 ^ (a - 1) else 0)
theorem oBh_eq {f g : Nat → Nat → Int} {a k : Nat} {m : Int} (h : k ≠ 0 → f (a - 1) (k - 1) = g (a - 1) (k - 1)) : oBh f a k m = oBh g a k m := by
  unfold oBh
  by_cases e : k = 0
  · rw [if_pos e, if_pos e]
  · rw [if_neg e, if_neg e, h e]
theorem oU_s (x : Int) (a k : Nat) (ha : 1 ≤ a) : oU x a k = x * oBh (oU x) a (a - 1 - k) (-4) + (10 - x) * oBh (oU x) a k (-4) := by
  obtain ⟨b, rfl⟩ : ∃ b, a = b + 1 := ⟨a - 1, by omega⟩
  simp [oU, oBh]
theorem oV_s (x : Int) (f : Nat → Nat → Int) (a k : Nat) (left : Int) (ha : 1 ≤ a) (hl : 0 ≤ left) (hf : ∀ j, f (a - 1) j = oV x (a - 1) (left - 1) j) : oV x a left k = x * oBh f a (a - 1 - k) left + (10 - x) * oBh f a k left := by
  obtain ⟨b, rfl⟩ : ∃ b, a = b + 1 := ⟨a - 1, by omega⟩
  have h0 : ¬ left < 0 := by omega
  have hf : ∀ j, f b j = oV x b (left - 1) j := hf
  simp [oV, oBh, hf, h0]
abbrev sm (σ : zM) : Nat → Nat → Int := fun a k => σ 79 ((10 * a + k : Nat) : Int)
theorem c_X8_behindOf (σ : zM) (n k : Nat) (m : Int) (hn : 1 ≤ n ∧ n ≤ 9) (hk : k < n) (hm : -4 ≤ m ∧ m ≤ 200) : zCl mX8_behindOf (fun u => [zr u 57, zi n, zi k, zi m]) σ (fun r σ' => r = oBh (sm σ) n k m ∧ σ' = σ) := by
  refine zCl_mk (own := RX8) rfl (by decide +kernel) (fun w => [some (zr w 57), some (zi n), some (zi k), some (zi m)]) (fun _ => rfl) (fun _ => Nat.le_of_ble_eq_true rfl) ?_
  intro Γ h hr
  have e1 : (n : Int) - 1 = ((n - 1 : Nat) : Int) := by omega
  refine z_iload_n h dX8_behindOf_0 rfl ?_
  refine z_if_ne h dX8_behindOf_1 (by omega) (fun b1 => ?_) (fun b1 => ?_)
  · refine z_raload_n h dX8_behindOf_19 rfl ?_
    refine z_getr h dX8_behindOf_20 fX8_73 L57 rfl ?_
    refine z_bipush h dX8_behindOf_23 (by decide) ?_
    refine z_iload_n h dX8_behindOf_25 rfl ?_
    refine z_iconst h dX8_behindOf_26 ?_
    refine z_isub h dX8_behindOf_27 ?_
    refine z_imul h dX8_behindOf_28 ?_
    refine z_iload_n h dX8_behindOf_29 rfl ?_
    refine z_iadd h dX8_behindOf_30 ?_
    refine z_iconst h dX8_behindOf_31 ?_
    refine z_isub h dX8_behindOf_32 ?_
    rw [show 10 * ((n : Int) - 1) + k - 1 = ((10 * (n - 1) + (k - 1) : Nat) : Int) by omega]
    refine z_lald h dX8_behindOf_33 L79 (by decide) (by omega) ?_
    refine z_iload_n h dX8_behindOf_34 rfl ?_
    refine z_if_ge h dX8_behindOf_35 (by omega) (fun b35 => ?_) (fun b35 => ?_)
    · refine z_lconst (x := 0) h dX8_behindOf_47 (by decide) ?_
      refine z_ladd h dX8_behindOf_48 ?_
      refine z_irL h hr dX8_behindOf_49 ?_
      refine ⟨?_, rfl⟩
      unfold oBh
      first
        | (rw [if_pos (show k = 0 by omega), if_pos (by omega)]; done)
        | (rw [if_pos (show k = 0 by omega), if_neg (by omega)]; done)
        | (rw [if_neg (show ¬ k = 0 by omega), if_pos (by omega)]; done)
        | (rw [if_neg (show ¬ k = 0 by omega), if_neg (by omega)]; done)
    · refine z_iload_n h dX8_behindOf_38 rfl ?_
      refine z_iconst h dX8_behindOf_39 ?_
      refine z_isub h dX8_behindOf_40 ?_
      rw [e1]
      refine z_cSl1 h dX8_behindOf_41 lX8_234 vX8_tens (c_X8_tens _ (n - 1) (by omega)) rfl (Nat.le_of_ble_eq_true rfl) (by decide) (fun v σ1 g1 => ?_)
      obtain ⟨g1, e2⟩ := g1
      rw [e2, g1]
      refine z_goto h dX8_behindOf_44 ?_
      refine z_ladd h dX8_behindOf_48 ?_
      refine z_irL h hr dX8_behindOf_49 ?_
      refine ⟨?_, rfl⟩
      unfold oBh
      first
        | (rw [if_pos (show k = 0 by omega), if_pos (by omega)]; done)
        | (rw [if_pos (show k = 0 by omega), if_neg (by omega)]; done)
        | (rw [if_neg (show ¬ k = 0 by omega), if_pos (by omega)]; done)
        | (rw [if_neg (show ¬ k = 0 by omega), if_neg (by omega)]; done)
  · refine z_iload_n h dX8_behindOf_4 rfl ?_
    refine z_if_ge h dX8_behindOf_5 (by omega) (fun b5 => ?_) (fun b5 => ?_)
    · refine z_iload_n h dX8_behindOf_12 rfl ?_
      refine z_iconst h dX8_behindOf_13 ?_
      refine z_isub h dX8_behindOf_14 ?_
      rw [e1]
      refine z_cSl1 h dX8_behindOf_15 lX8_234 vX8_tens (c_X8_tens _ (n - 1) (by omega)) rfl (Nat.le_of_ble_eq_true rfl) (by decide) (fun v σ1 g1 => ?_)
      obtain ⟨g1, e2⟩ := g1
      rw [e2, g1]
      refine z_irL h hr dX8_behindOf_18 ?_
      refine ⟨?_, rfl⟩
      unfold oBh
      first
        | (rw [if_pos (show k = 0 by omega), if_pos (by omega)]; done)
        | (rw [if_pos (show k = 0 by omega), if_neg (by omega)]; done)
        | (rw [if_neg (show ¬ k = 0 by omega), if_pos (by omega)]; done)
        | (rw [if_neg (show ¬ k = 0 by omega), if_neg (by omega)]; done)
    · refine z_lconst (x := 0) h dX8_behindOf_8 (by decide) ?_
      refine z_goto h dX8_behindOf_9 ?_
      refine z_irL h hr dX8_behindOf_18 ?_
      refine ⟨?_, rfl⟩
      unfold oBh
      first
        | (rw [if_pos (show k = 0 by omega), if_pos (by omega)]; done)
        | (rw [if_pos (show k = 0 by omega), if_neg (by omega)]; done)
        | (rw [if_neg (show ¬ k = 0 by omega), if_pos (by omega)]; done)
        | (rw [if_neg (show ¬ k = 0 by omega), if_neg (by omega)]; done)
theorem c_X8_layMeans (σ : zM) (n x : Nat) (hn : 1 ≤ n ∧ n ≤ 9) (hx : x ≤ 10) : zCv mX8_layMeans (fun u => [zr u 57, zi n, zi x]) σ (fun σ' => (∀ c, c ≠ 79 → ∀ i, σ' c i = σ c i) ∧ ∀ k, k < n → sm σ' n k = oU x n k) := by
  refine zCv_mk (own := RX8) rfl (by decide +kernel) (fun w => [some (zr w 57), some (zi n), some (zi x), none, none]) (fun _ => rfl) (fun _ => Nat.le_of_ble_eq_true rfl) ?_
  intro Γ h hr
  have L : ∀ (r a : Nat) (σ1 : zM) (l4 : Option Value), a + r = n + 1 → 1 ≤ a → (∀ c, c ≠ 79 → ∀ i, σ1 c i = σ c i) → (∀ k, 1 < a → k < a - 1 → sm σ1 (a - 1) k = oU x (a - 1) k) → zV Γ σ1 2 [some (zr (zw Γ) 57), some (zi n), some (zi x), some (zi a), l4] [] := by
    intro r
    induction r with
    | zero =>
      intro a σ1 l4 h1 h2 h3 h4
      refine z_iload_n h dX8_layMeans_2 rfl ?_
      refine z_iload_n h dX8_layMeans_3 rfl ?_
      refine z_icmp_gt h dX8_layMeans_4 (by omega) (by omega) (fun b4 => ?_) (fun b4 => by exfalso; omega)
      refine z_irV h hr dX8_layMeans_72 ?_
      refine ⟨h3, fun k hk => ?_⟩
      have := h4 k (by omega) (by omega)
      rw [show a - 1 = n by omega] at this
      exact this
    | succ r ih =>
      intro a σ1 l4 h1 h2 h3 h4
      have L2 : ∀ (r2 k : Nat) (σ2 : zM), k + r2 = a → (∀ c, c ≠ 79 → ∀ i, σ2 c i = σ c i) → (∀ k, 1 < a → k < a - 1 → sm σ2 (a - 1) k = oU x (a - 1) k) → (∀ j, j < k → sm σ2 a j = oU x a j) → zV Γ σ2 10 [some (zr (zw Γ) 57), some (zi n), some (zi x), some (zi a), some (zi k)] [] := by
        intro r2
        induction r2 with
        | zero =>
          intro k σ2 g1 g2 g3 g4
          refine z_iload h dX8_layMeans_10 rfl ?_
          refine z_iload_n h dX8_layMeans_12 rfl ?_
          refine z_icmp_ge h dX8_layMeans_13 (by omega) (by omega) (fun b13 => ?_) (fun b13 => by exfalso; omega)
          refine z_iinc h dX8_layMeans_66 (by decide) rfl (zst1_3 rfl) ?_
          refine z_goto h dX8_layMeans_69 ?_
          rw [show (a : Int) + 1 = ((a + 1 : Nat) : Int) by omega]
          exact ih (a + 1) σ2 _ (by omega) (by omega) g2 (fun j _ hj => g4 j (by omega))
        | succ r2 ih2 =>
          intro k σ2 g1 g2 g3 g4
          have e1 : (a : Int) - 1 - k = ((a - 1 - k : Nat) : Int) := by omega
          refine z_iload h dX8_layMeans_10 rfl ?_
          refine z_iload_n h dX8_layMeans_12 rfl ?_
          refine z_icmp_ge h dX8_layMeans_13 (by omega) (by omega) (fun b13 => by exfalso; omega) (fun b13 => ?_)
          refine z_raload_n h dX8_layMeans_16 rfl ?_
          refine z_getr h dX8_layMeans_17 fX8_73 L57 rfl ?_
          refine z_bipush h dX8_layMeans_20 (by decide) ?_
          refine z_iload_n h dX8_layMeans_22 rfl ?_
          refine z_imul h dX8_layMeans_23 ?_
          refine z_iload h dX8_layMeans_24 rfl ?_
          refine z_iadd h dX8_layMeans_26 ?_
          rw [show 10 * (a : Int) + k = ((10 * a + k : Nat) : Int) by omega]
          refine z_iload_n h dX8_layMeans_27 rfl ?_
          refine z_i2l h dX8_layMeans_28 (by omega) ?_
          refine z_raload_n h dX8_layMeans_29 rfl ?_
          refine z_iload_n h dX8_layMeans_30 rfl ?_
          refine z_iload_n h dX8_layMeans_31 rfl ?_
          refine z_iconst h dX8_layMeans_32 ?_
          refine z_isub h dX8_layMeans_33 ?_
          refine z_iload h dX8_layMeans_34 rfl ?_
          refine z_isub h dX8_layMeans_36 ?_
          rw [e1]
          refine z_bipush h dX8_layMeans_37 (by decide) ?_
          refine z_cVl3 h dX8_layMeans_39 lX8_238 vX8_behindOf rfl L57 (c_X8_behindOf σ2 a (a - 1 - k) (-4) (by omega) (by omega) (by omega)) rfl (Nat.le_of_ble_eq_true rfl) (by decide) (fun v σ3 g5 => ?_)
          obtain ⟨g5, e5⟩ := g5
          rw [e5]
          refine z_lmul h dX8_layMeans_42 ?_
          refine z_bipush h dX8_layMeans_43 (by decide) ?_
          refine z_iload_n h dX8_layMeans_45 rfl ?_
          refine z_isub h dX8_layMeans_46 ?_
          refine z_i2l h dX8_layMeans_47 (by omega) ?_
          refine z_raload_n h dX8_layMeans_48 rfl ?_
          refine z_iload_n h dX8_layMeans_49 rfl ?_
          refine z_iload h dX8_layMeans_50 rfl ?_
          refine z_bipush h dX8_layMeans_52 (by decide) ?_
          refine z_cVl3 h dX8_layMeans_54 lX8_238 vX8_behindOf rfl L57 (c_X8_behindOf σ2 a k (-4) (by omega) (by omega) (by omega)) rfl (Nat.le_of_ble_eq_true rfl) (by decide) (fun v2 σ4 g6 => ?_)
          obtain ⟨g6, e6⟩ := g6
          rw [e6]
          refine z_lmul h dX8_layMeans_57 ?_
          refine z_ladd h dX8_layMeans_58 ?_
          refine z_last h dX8_layMeans_59 L79 (by decide) (by omega) ?_
          refine z_iinc h dX8_layMeans_60 (by decide) rfl (zst1_4 rfl) ?_
          refine z_goto h dX8_layMeans_63 ?_
          rw [show (k : Int) + 1 = ((k + 1 : Nat) : Int) by omega]
          have ev : x * v + (10 - x) * v2 = oU x a k := by
            rw [g5, g6, oU_s x a k h2]
            rw [oBh_eq (f := sm σ2) (g := oU x) (a := a) (k := a - 1 - k) (fun hz => g3 _ (by omega) (by omega)), oBh_eq (f := sm σ2) (g := oU x) (a := a) (k := k) (fun hz => g3 _ (by omega) (by omega))]
          rw [ev]
          refine ih2 (k + 1) _ (by omega) (fun c hc i => by rw [zup_ne hc]; exact g2 c hc i) (fun j hj1 hj2 => ?_) (fun j hj => ?_)
          · show zup σ2 79 _ _ 79 _ = _
            rw [zup_nei (by omega)]
            exact g3 j hj1 hj2
          · show zup σ2 79 _ _ 79 _ = _
            by_cases e : j = k
            · subst e
              rw [zup_eq]
            · rw [zup_nei (by omega)]
              exact g4 j (by omega)
      refine z_iload_n h dX8_layMeans_2 rfl ?_
      refine z_iload_n h dX8_layMeans_3 rfl ?_
      refine z_icmp_gt h dX8_layMeans_4 (by omega) (by omega) (fun b4 => by exfalso; omega) (fun b4 => ?_)
      refine z_iconst h dX8_layMeans_7 ?_
      refine z_ist1 h dX8_layMeans_8 (by decide) (zst1_4 rfl) ?_
      exact L2 a 0 σ1 (by omega) h3 h4 (fun j hj => by omega)
  refine z_iconst h dX8_layMeans_0 ?_
  refine z_ist1_n h dX8_layMeans_1 (by decide) (zst1_3 rfl) ?_
  exact L n 1 σ none (by omega) (by omega) (fun _ _ _ => rfl) (fun k hk => by omega)
theorem c_X8_layBy (σ : zM) (n x m : Nat) (hn : 1 ≤ n ∧ n ≤ 9) (hx : x ≤ 10) (hm : m ≤ 8) : zCv mX8_layBy (fun u => [zr u 57, zi n, zi x, zi m]) σ (fun σ' => (∀ c, c ≠ 79 → ∀ i, σ' c i = σ c i) ∧ ∀ k, k < n → sm σ' n k = oV x n m k) := by
  refine zCv_mk (own := RX8) rfl (by decide +kernel) (fun w => [some (zr w 57), some (zi n), some (zi x), some (zi m), none, none, none]) (fun _ => rfl) (fun _ => Nat.le_of_ble_eq_true rfl) ?_
  intro Γ h hr
  have L : ∀ (r a : Nat) (σ1 : zM) (l5 l6 : Option Value), zc1 l5 = true → a + r = n + 1 → 1 ≤ a → (∀ c, c ≠ 79 → ∀ i, σ1 c i = σ c i) → (∀ k, 1 < a → k < a - 1 → sm σ1 (a - 1) k = oV x (a - 1) ((m : Int) - (n - a) - 1) k) → zV Γ σ1 3 [some (zr (zw Γ) 57), some (zi n), some (zi x), some (zi m), some (zi a), l5, l6] [] := by
    intro r
    induction r with
    | zero =>
      intro a σ1 l5 l6 hl5 h1 h2 h3 h4
      refine z_iload h dX8_layBy_3 rfl ?_
      refine z_iload_n h dX8_layBy_5 rfl ?_
      refine z_icmp_gt h dX8_layBy_6 (by omega) (by omega) (fun b6 => ?_) (fun b6 => by exfalso; omega)
      refine z_irV h hr dX8_layBy_96 ?_
      refine ⟨h3, fun k hk => ?_⟩
      have := h4 k (by omega) (by omega)
      rw [show (m : Int) - (n - a) - 1 = m by omega, show a - 1 = n by omega] at this
      exact this
    | succ r ih =>
      intro a σ1 l5 l6 hl5 h1 h2 h3 h4
      obtain ⟨left, hleft⟩ : ∃ left : Int, left = (m : Int) - (n - a) := ⟨_, rfl⟩
      rw [← hleft] at h4
      have L2 : ∀ (r2 k : Nat) (σ2 : zM), k + r2 = a → (∀ c, c ≠ 79 → ∀ i, σ2 c i = σ c i) → (∀ k, 1 < a → k < a - 1 → sm σ2 (a - 1) k = oV x (a - 1) (left - 1) k) → (∀ j, j < k → sm σ2 a j = oV x a left j) → zV Γ σ2 20 [some (zr (zw Γ) 57), some (zi n), some (zi x), some (zi m), some (zi a), some (zi left), some (zi k)] [] := by
        intro r2
        induction r2 with
        | zero =>
          intro k σ2 g1 g2 g3 g4
          refine z_iload h dX8_layBy_20 rfl ?_
          refine z_iload h dX8_layBy_22 rfl ?_
          refine z_icmp_ge h dX8_layBy_24 (by omega) (by omega) (fun b24 => ?_) (fun b24 => by exfalso; omega)
          refine z_iinc h dX8_layBy_90 (by decide) rfl (zst1_4 rfl) ?_
          refine z_goto h dX8_layBy_93 ?_
          rw [show (a : Int) + 1 = ((a + 1 : Nat) : Int) by omega]
          refine ih (a + 1) σ2 _ _ rfl (by omega) (by omega) g2 (fun j _ hj => ?_)
          rw [show (m : Int) - (n - ((a + 1 : Nat) : Int)) - 1 = left by omega]
          exact g4 j (by omega)
        | succ r2 ih2 =>
          intro k σ2 g1 g2 g3 g4
          have e1 : (a : Int) - 1 - k = ((a - 1 - k : Nat) : Int) := by omega
          have fin : ∀ v : Int, v = oV x a left k → zV Γ (zup σ2 79 ((10 * a + k : Nat) : Int) v) 20 [some (zr (zw Γ) 57), some (zi n), some (zi x), some (zi m), some (zi a), some (zi left), some (zi ((k : Int) + 1))] [] := by
            intro v ev
            rw [ev]
            rw [show (k : Int) + 1 = ((k + 1 : Nat) : Int) by omega]
            refine ih2 (k + 1) _ (by omega) (fun c hc i => by rw [zup_ne hc]; exact g2 c hc i) (fun j hj1 hj2 => ?_) (fun j hj => ?_)
            · show zup σ2 79 _ _ 79 _ = _
              rw [zup_nei (by omega)]
              exact g3 j hj1 hj2
            · show zup σ2 79 _ _ 79 _ = _
              by_cases e : j = k
              · subst e
                rw [zup_eq]
              · rw [zup_nei (by omega)]
                exact g4 j (by omega)
          refine z_iload h dX8_layBy_20 rfl ?_
          refine z_iload h dX8_layBy_22 rfl ?_
          refine z_icmp_ge h dX8_layBy_24 (by omega) (by omega) (fun b24 => by exfalso; omega) (fun b24 => ?_)
          refine z_raload_n h dX8_layBy_27 rfl ?_
          refine z_getr h dX8_layBy_28 fX8_73 L57 rfl ?_
          refine z_bipush h dX8_layBy_31 (by decide) ?_
          refine z_iload h dX8_layBy_33 rfl ?_
          refine z_imul h dX8_layBy_35 ?_
          refine z_iload h dX8_layBy_36 rfl ?_
          refine z_iadd h dX8_layBy_38 ?_
          rw [show 10 * (a : Int) + k = ((10 * a + k : Nat) : Int) by omega]
          refine z_iload h dX8_layBy_39 rfl ?_
          refine z_if_ge h dX8_layBy_41 (by omega) (fun b41 => ?_) (fun b41 => ?_)
          · refine z_iload_n h dX8_layBy_48 rfl ?_
            refine z_i2l h dX8_layBy_49 (by omega) ?_
            refine z_raload_n h dX8_layBy_50 rfl ?_
            refine z_iload h dX8_layBy_51 rfl ?_
            refine z_iload h dX8_layBy_53 rfl ?_
            refine z_iconst h dX8_layBy_55 ?_
            refine z_isub h dX8_layBy_56 ?_
            refine z_iload h dX8_layBy_57 rfl ?_
            refine z_isub h dX8_layBy_59 ?_
            rw [e1]
            refine z_iload h dX8_layBy_60 rfl ?_
            refine z_cVl3 h dX8_layBy_62 lX8_238 vX8_behindOf rfl L57 (c_X8_behindOf σ2 a (a - 1 - k) left (by omega) (by omega) (by omega)) rfl (Nat.le_of_ble_eq_true rfl) (by decide) (fun v σ3 g5 => ?_)
            obtain ⟨g5, e5⟩ := g5
            rw [e5]
            refine z_lmul h dX8_layBy_65 ?_
            refine z_bipush h dX8_layBy_66 (by decide) ?_
            refine z_iload_n h dX8_layBy_68 rfl ?_
            refine z_isub h dX8_layBy_69 ?_
            refine z_i2l h dX8_layBy_70 (by omega) ?_
            refine z_raload_n h dX8_layBy_71 rfl ?_
            refine z_iload h dX8_layBy_72 rfl ?_
            refine z_iload h dX8_layBy_74 rfl ?_
            refine z_iload h dX8_layBy_76 rfl ?_
            refine z_cVl3 h dX8_layBy_78 lX8_238 vX8_behindOf rfl L57 (c_X8_behindOf σ2 a k left (by omega) (by omega) (by omega)) rfl (Nat.le_of_ble_eq_true rfl) (by decide) (fun v2 σ4 g6 => ?_)
            obtain ⟨g6, e6⟩ := g6
            rw [e6]
            refine z_lmul h dX8_layBy_81 ?_
            refine z_ladd h dX8_layBy_82 ?_
            refine z_last h dX8_layBy_83 L79 (by decide) (by omega) ?_
            refine z_iinc h dX8_layBy_84 (by decide) rfl (zst1_6 rfl) ?_
            refine z_goto h dX8_layBy_87 ?_
            first
              | (refine fin _ ?_
                 obtain ⟨b, hb⟩ : ∃ b, a = b + 1 := ⟨a - 1, by omega⟩
                 rw [hb, oV, if_pos (by omega)]
                 done)
              | (refine fin _ ?_
                 rw [g5, g6, oV_s x (fun b j => oV x b (left - 1) j) a k left h2 (by omega) (fun _ => rfl)]
                 rw [oBh_eq (f := sm σ2) (g := fun b j => oV x b (left - 1) j) (a := a) (k := a - 1 - k) (fun hz => g3 _ (by omega) (by omega)), oBh_eq (f := sm σ2) (g := fun b j => oV x b (left - 1) j) (a := a) (k := k) (fun hz => g3 _ (by omega) (by omega))]
                 done)
          · refine z_lconst (x := 0) h dX8_layBy_44 (by decide) ?_
            refine z_goto h dX8_layBy_45 ?_
            refine z_last h dX8_layBy_83 L79 (by decide) (by omega) ?_
            refine z_iinc h dX8_layBy_84 (by decide) rfl (zst1_6 rfl) ?_
            refine z_goto h dX8_layBy_87 ?_
            first
              | (refine fin _ ?_
                 obtain ⟨b, hb⟩ : ∃ b, a = b + 1 := ⟨a - 1, by omega⟩
                 rw [hb, oV, if_pos (by omega)]
                 done)
              | (refine fin _ ?_
                 rw [g5, g6, oV_s x (fun b j => oV x b (left - 1) j) a k left h2 (by omega) (fun _ => rfl)]
                 rw [oBh_eq (f := sm σ2) (g := fun b j => oV x b (left - 1) j) (a := a) (k := a - 1 - k) (fun hz => g3 _ (by omega) (by omega)), oBh_eq (f := sm σ2) (g := fun b j => oV x b (left - 1) j) (a := a) (k := k) (fun hz => g3 _ (by omega) (by omega))]
                 done)
      refine z_iload h dX8_layBy_3 rfl ?_
      refine z_iload_n h dX8_layBy_5 rfl ?_
      refine z_icmp_gt h dX8_layBy_6 (by omega) (by omega) (fun b6 => by exfalso; omega) (fun b6 => ?_)
      refine z_iload_n h dX8_layBy_9 rfl ?_
      refine z_iload_n h dX8_layBy_10 rfl ?_
      refine z_iload h dX8_layBy_11 rfl ?_
      refine z_isub h dX8_layBy_13 ?_
      refine z_isub h dX8_layBy_14 ?_
      rw [← hleft]
      refine z_ist1 h dX8_layBy_15 (by decide) (zst1_5 rfl) ?_
      refine z_iconst h dX8_layBy_17 ?_
      refine z_ist1 h dX8_layBy_18 (by decide) (zst1_6 rfl) ?_
      exact L2 a 0 σ1 (by omega) h3 h4 (fun j hj => by omega)
  refine z_iconst h dX8_layBy_0 ?_
  refine z_ist1 h dX8_layBy_1 (by decide) (zst1_4 rfl) ?_
  exact L n 1 σ none none rfl (by omega) (by omega) (fun _ _ _ => rfl) (fun k hk => by omega)
theorem oU_Mx {n k x : Nat} (hn : n ≤ 9) (hk : k < n) (hx : x ≤ 10) : oM n k x = oU x n k * 10 ^ (9 - n) := oU_M ⟨n, by omega⟩ ⟨k, by omega⟩ ⟨x, by omega⟩ hk
theorem oV_Cx {n k x m : Nat} (hn : n ≤ 9) (hk : k < n) (hx : x ≤ 10) (hm : m ≤ 8) : oC n k x m = oV x n m k * 10 ^ (9 - n) := oV_C ⟨n, by omega⟩ ⟨k, by omega⟩ ⟨x, by omega⟩ ⟨m, by omega⟩ hk
theorem oU_r {n k x : Nat} (hn : n ≤ 9) (hk : k < n) (hx : x ≤ 10) : 0 ≤ oU x n k ∧ oU x n k ≤ 10000000000 := oU_rg ⟨n, by omega⟩ ⟨k, by omega⟩ ⟨x, by omega⟩ hk
theorem oV_r {n k x m : Nat} (hn : n ≤ 9) (hk : k < n) (hx : x ≤ 10) (hm : m ≤ 8) : 0 ≤ oV x n m k ∧ oV x n m k ≤ 10000000000 := oV_rg ⟨n, by omega⟩ ⟨k, by omega⟩ ⟨x, by omega⟩ ⟨m, by omega⟩ hk
theorem oU_lt {n k j x : Nat} (hn : n ≤ 9) (hk : k < n) (hj : j < n) (hx : x ≤ 10) : oM n k x < oM n j x ↔ oU x n k < oU x n j := by
  rw [oU_Mx hn hk hx, oU_Mx hn hj hx]
  exact ⟨fun h => Int.lt_of_mul_lt_mul_right h (Int.le_of_lt (ten_p _)), fun h => Int.mul_lt_mul_of_pos_right h (ten_p _)⟩
theorem mInv_79 {σ σ' : zM} {S : zSt} (h : mInv σ S) (hg : ∀ c, c ≠ 79 → ∀ i, σ' c i = σ c i) : mInv σ' S ∧ zfr 57 79 σ σ' := ⟨mInv_of h (fun c i hu => hg c (by unfold mUse at hu; omega) i), fun c hc i => hg c (by omega) i⟩
theorem c_X8_mean (σ : zM) (S : zSt) (hI : mInv σ S) (n k x pt : Int) (hn : zok n) (hk : zok k) (hx : zok x) (hpt : zok pt) : zCl mX8_mean (fun u => [zr u 57, zi n, zi k, zi x, zi pt]) σ (fun r σ' => r = aMean n k x pt ∧ mInv σ' S ∧ zfr 57 79 σ σ') := by
  refine zCl_mk (own := RX8) rfl (by decide +kernel) (fun w0 => [some (zr w0 57), some (zi n), some (zi k), some (zi x), some (zi pt)]) (fun _ => rfl) (fun _ => Nat.le_of_ble_eq_true rfl) ?_
  intro Γ h hr
  unfold zok at hn hk hx hpt
  by_cases e : 1 ≤ n ∧ n ≤ 9 ∧ 0 ≤ x ∧ x ≤ 10 ∧ 0 ≤ k ∧ k < n ∧ 0 ≤ pt ∧ pt ≤ 1
  · obtain ⟨n', rfl⟩ := Int.eq_ofNat_of_zero_le (show 0 ≤ n by omega)
    obtain ⟨x', rfl⟩ := Int.eq_ofNat_of_zero_le (show 0 ≤ x by omega)
    obtain ⟨k', rfl⟩ := Int.eq_ofNat_of_zero_le (show 0 ≤ k by omega)
    have ha : aMean n' k' x' pt = oLow (oU x' n' k') (10 ^ n') pt := by
      unfold aMean
      rw [if_pos e]
      show oLow (oM n' k' x') 1000000000 pt = _
      rw [oU_Mx (by omega) (by omega) (by omega), ten9 (n := n') (by omega), oLow_sc (ten_p _)]
    refine z_iload_n h dX8_mean_0 rfl ?_
    refine z_iload_n h dX8_mean_1 rfl ?_
    refine z_cSi2 h dX8_mean_2 lX8_242 vX8_areOf (c_X8_areOf _ n' x' (by unfold zok; omega) (by unfold zok; omega)) rfl (Nat.le_of_ble_eq_true rfl) (by decide) (fun v0 σ0 g0 => ?_)
    obtain ⟨g0, e0⟩ := g0
    rw [e0]
    refine z_if_eq h dX8_mean_5 (by omega) (fun b5 => by exfalso; omega) (fun b5 => ?_)
    refine z_iload_n h dX8_mean_8 rfl ?_
    refine z_i2l h dX8_mean_9 (by omega) ?_
    refine z_lconst (x := 0) h dX8_mean_10 (by decide) ?_
    refine z_iload_n h dX8_mean_11 rfl ?_
    refine z_iconst h dX8_mean_12 ?_
    refine z_isub h dX8_mean_13 ?_
    refine z_i2l h dX8_mean_14 (by omega) ?_
    refine z_cSi3 h dX8_mean_15 lX8_83 vX8_in (c_X8_in _ k' (0) ((n' : Int) - 1) (by unfold zlo; omega) (by unfold zlo; omega) (by unfold zlo; omega)) rfl (Nat.le_of_ble_eq_true rfl) (by decide) (fun v1 σ1 g1 => ?_)
    obtain ⟨g1, e1⟩ := g1
    rw [e1]
    refine z_if_eq h dX8_mean_18 (by omega) (fun b18 => by exfalso; omega) (fun b18 => ?_)
    refine z_iload h dX8_mean_21 rfl ?_
    refine z_i2l h dX8_mean_23 (by omega) ?_
    refine z_lconst (x := 0) h dX8_mean_24 (by decide) ?_
    refine z_lconst (x := 1) h dX8_mean_25 (by decide) ?_
    refine z_cSi3 h dX8_mean_26 lX8_83 vX8_in (c_X8_in _ pt (0) (1) (by unfold zlo; omega) (by unfold zlo; omega) (by unfold zlo; omega)) rfl (Nat.le_of_ble_eq_true rfl) (by decide) (fun v2 σ2 g2 => ?_)
    obtain ⟨g2, e2⟩ := g2
    rw [e2]
    refine z_if_ne h dX8_mean_29 (by omega) (fun b29 => ?_) (fun b29 => by exfalso; omega)
    refine z_raload_n h dX8_mean_36 rfl ?_
    refine z_iload_n h dX8_mean_37 rfl ?_
    refine z_iload_n h dX8_mean_38 rfl ?_
    refine z_cVv2 h dX8_mean_39 lX8_245 vX8_layMeans rfl L57 (c_X8_layMeans _ n' x' (by omega) (by omega)) rfl (Nat.le_of_ble_eq_true rfl) (by decide) (fun σ3 g3 => ?_)
    refine z_raload_n h dX8_mean_42 rfl ?_
    refine z_getr h dX8_mean_43 fX8_73 L57 rfl ?_
    refine z_bipush h dX8_mean_46 (by decide) ?_
    refine z_iload_n h dX8_mean_48 rfl ?_
    refine z_imul h dX8_mean_49 ?_
    refine z_iload_n h dX8_mean_50 rfl ?_
    refine z_iadd h dX8_mean_51 ?_
    rw [show 10 * (n' : Int) + k' = ((10 * n' + k' : Nat) : Int) by omega]
    refine z_lald h dX8_mean_52 L79 (by decide) (by omega) ?_
    rw [show σ3 79 ((10 * n' + k' : Nat) : Int) = oU x' n' k' from g3.2 k' (by omega)]
    refine z_iload_n h dX8_mean_53 rfl ?_
    refine z_cSl1 h dX8_mean_54 lX8_234 vX8_tens (c_X8_tens _ n' (by omega)) rfl (Nat.le_of_ble_eq_true rfl) (by decide) (fun v4 σ4 g4 => ?_)
    obtain ⟨g4, e4⟩ := g4
    rw [e4, g4]
    refine z_iload h dX8_mean_57 rfl ?_
    refine z_cSl3 h dX8_mean_59 lX8_248 vX8_lowest (c_X8_lowest _ _ _ pt (oU_r (by omega) (by omega) (by omega)) ⟨ten_p _, by have := ten_le (n := n') (by omega); omega⟩ (by omega)) rfl (Nat.le_of_ble_eq_true rfl) (by decide) (fun v5 σ5 g5 => ?_)
    obtain ⟨g5, e5⟩ := g5
    rw [e5, g5]
    refine z_irL h hr dX8_mean_62 ?_
    exact ⟨ha.symm, mInv_79 hI g3.1⟩
  · have ha : aMean n k x pt = -1 := by
      unfold aMean
      rw [if_neg e]
    refine z_iload_n h dX8_mean_0 rfl ?_
    refine z_iload_n h dX8_mean_1 rfl ?_
    refine z_cSi2 h dX8_mean_2 lX8_242 vX8_areOf (c_X8_areOf _ n x hn hx) rfl (Nat.le_of_ble_eq_true rfl) (by decide) (fun v0 σ0 g0 => ?_)
    obtain ⟨g0, e0⟩ := g0
    rw [e0]
    refine z_if_eq h dX8_mean_5 (by omega) (fun b5 => ?_) (fun b5 => ?_)
    · refine z_ldc2 (x := -1) h dX8_mean_32 kX8_225 (by decide) ?_
      refine z_irL h hr dX8_mean_35 ?_
      exact ⟨ha.symm, hI, zfr_rf⟩
    · refine z_iload_n h dX8_mean_8 rfl ?_
      refine z_i2l h dX8_mean_9 (by omega) ?_
      refine z_lconst (x := 0) h dX8_mean_10 (by decide) ?_
      refine z_iload_n h dX8_mean_11 rfl ?_
      refine z_iconst h dX8_mean_12 ?_
      refine z_isub h dX8_mean_13 ?_
      refine z_i2l h dX8_mean_14 (by omega) ?_
      refine z_cSi3 h dX8_mean_15 lX8_83 vX8_in (c_X8_in _ k (0) (n - 1) (by unfold zlo; omega) (by unfold zlo; omega) (by unfold zlo; omega)) rfl (Nat.le_of_ble_eq_true rfl) (by decide) (fun v1 σ1 g1 => ?_)
      obtain ⟨g1, e1⟩ := g1
      rw [e1]
      refine z_if_eq h dX8_mean_18 (by omega) (fun b18 => ?_) (fun b18 => ?_)
      · refine z_ldc2 (x := -1) h dX8_mean_32 kX8_225 (by decide) ?_
        refine z_irL h hr dX8_mean_35 ?_
        exact ⟨ha.symm, hI, zfr_rf⟩
      · refine z_iload h dX8_mean_21 rfl ?_
        refine z_i2l h dX8_mean_23 (by omega) ?_
        refine z_lconst (x := 0) h dX8_mean_24 (by decide) ?_
        refine z_lconst (x := 1) h dX8_mean_25 (by decide) ?_
        refine z_cSi3 h dX8_mean_26 lX8_83 vX8_in (c_X8_in _ pt (0) (1) (by unfold zlo; omega) (by unfold zlo; omega) (by unfold zlo; omega)) rfl (Nat.le_of_ble_eq_true rfl) (by decide) (fun v2 σ2 g2 => ?_)
        obtain ⟨g2, e2⟩ := g2
        rw [e2]
        refine z_if_ne h dX8_mean_29 (by omega) (fun b29 => by exfalso; omega) (fun b29 => ?_)
        refine z_ldc2 (x := -1) h dX8_mean_32 kX8_225 (by decide) ?_
        refine z_irL h hr dX8_mean_35 ?_
        exact ⟨ha.symm, hI, zfr_rf⟩
theorem c_X8_by (σ : zM) (S : zSt) (hI : mInv σ S) (n k x m pt : Int) (hn : zok n) (hk : zok k) (hx : zok x) (hm : zok m) (hpt : zok pt) : zCl mX8_by (fun u => [zr u 57, zi n, zi k, zi x, zi m, zi pt]) σ (fun r σ' => r = aBy n k x m pt ∧ mInv σ' S ∧ zfr 57 79 σ σ') := by
  refine zCl_mk (own := RX8) rfl (by decide +kernel) (fun w0 => [some (zr w0 57), some (zi n), some (zi k), some (zi x), some (zi m), some (zi pt)]) (fun _ => rfl) (fun _ => Nat.le_of_ble_eq_true rfl) ?_
  intro Γ h hr
  unfold zok at hn hk hx hm hpt
  by_cases e : 1 ≤ n ∧ n ≤ 9 ∧ 0 ≤ x ∧ x ≤ 10 ∧ 0 ≤ k ∧ k < n ∧ 0 ≤ m ∧ m ≤ 8 ∧ 0 ≤ pt ∧ pt ≤ 1
  · obtain ⟨n', rfl⟩ := Int.eq_ofNat_of_zero_le (show 0 ≤ n by omega)
    obtain ⟨x', rfl⟩ := Int.eq_ofNat_of_zero_le (show 0 ≤ x by omega)
    obtain ⟨k', rfl⟩ := Int.eq_ofNat_of_zero_le (show 0 ≤ k by omega)
    obtain ⟨m', rfl⟩ := Int.eq_ofNat_of_zero_le (show 0 ≤ m by omega)
    have ha : aBy n' k' x' m' pt = oLow (oV x' n' m' k') (10 ^ n') pt := by
      unfold aBy
      rw [if_pos e]
      show oLow (oC n' k' x' m') 1000000000 pt = _
      rw [oV_Cx (by omega) (by omega) (by omega) (by omega), ten9 (n := n') (by omega), oLow_sc (ten_p _)]
    refine z_iload_n h dX8_by_0 rfl ?_
    refine z_iload_n h dX8_by_1 rfl ?_
    refine z_cSi2 h dX8_by_2 lX8_242 vX8_areOf (c_X8_areOf _ n' x' (by unfold zok; omega) (by unfold zok; omega)) rfl (Nat.le_of_ble_eq_true rfl) (by decide) (fun v0 σ0 g0 => ?_)
    obtain ⟨g0, e0⟩ := g0
    rw [e0]
    refine z_if_eq h dX8_by_5 (by omega) (fun b5 => by exfalso; omega) (fun b5 => ?_)
    refine z_iload_n h dX8_by_8 rfl ?_
    refine z_i2l h dX8_by_9 (by omega) ?_
    refine z_lconst (x := 0) h dX8_by_10 (by decide) ?_
    refine z_iload_n h dX8_by_11 rfl ?_
    refine z_iconst h dX8_by_12 ?_
    refine z_isub h dX8_by_13 ?_
    refine z_i2l h dX8_by_14 (by omega) ?_
    refine z_cSi3 h dX8_by_15 lX8_83 vX8_in (c_X8_in _ k' (0) ((n' : Int) - 1) (by unfold zlo; omega) (by unfold zlo; omega) (by unfold zlo; omega)) rfl (Nat.le_of_ble_eq_true rfl) (by decide) (fun v1 σ1 g1 => ?_)
    obtain ⟨g1, e1⟩ := g1
    rw [e1]
    refine z_if_eq h dX8_by_18 (by omega) (fun b18 => by exfalso; omega) (fun b18 => ?_)
    refine z_iload h dX8_by_21 rfl ?_
    refine z_i2l h dX8_by_23 (by omega) ?_
    refine z_lconst (x := 0) h dX8_by_24 (by decide) ?_
    refine z_ldc2 (x := 8) h dX8_by_25 kX8_81 (by decide) ?_
    refine z_cSi3 h dX8_by_28 lX8_83 vX8_in (c_X8_in _ m' (0) (8) (by unfold zlo; omega) (by unfold zlo; omega) (by unfold zlo; omega)) rfl (Nat.le_of_ble_eq_true rfl) (by decide) (fun v2 σ2 g2 => ?_)
    obtain ⟨g2, e2⟩ := g2
    rw [e2]
    refine z_if_eq h dX8_by_31 (by omega) (fun b31 => by exfalso; omega) (fun b31 => ?_)
    refine z_iload h dX8_by_34 rfl ?_
    refine z_i2l h dX8_by_36 (by omega) ?_
    refine z_lconst (x := 0) h dX8_by_37 (by decide) ?_
    refine z_lconst (x := 1) h dX8_by_38 (by decide) ?_
    refine z_cSi3 h dX8_by_39 lX8_83 vX8_in (c_X8_in _ pt (0) (1) (by unfold zlo; omega) (by unfold zlo; omega) (by unfold zlo; omega)) rfl (Nat.le_of_ble_eq_true rfl) (by decide) (fun v3 σ3 g3 => ?_)
    obtain ⟨g3, e3⟩ := g3
    rw [e3]
    refine z_if_ne h dX8_by_42 (by omega) (fun b42 => ?_) (fun b42 => by exfalso; omega)
    refine z_raload_n h dX8_by_49 rfl ?_
    refine z_iload_n h dX8_by_50 rfl ?_
    refine z_iload_n h dX8_by_51 rfl ?_
    refine z_iload h dX8_by_52 rfl ?_
    refine z_cVv3 h dX8_by_54 lX8_252 vX8_layBy rfl L57 (c_X8_layBy _ n' x' m' (by omega) (by omega) (by omega)) rfl (Nat.le_of_ble_eq_true rfl) (by decide) (fun σ6 g6 => ?_)
    refine z_raload_n h dX8_by_57 rfl ?_
    refine z_getr h dX8_by_58 fX8_73 L57 rfl ?_
    refine z_bipush h dX8_by_61 (by decide) ?_
    refine z_iload_n h dX8_by_63 rfl ?_
    refine z_imul h dX8_by_64 ?_
    refine z_iload_n h dX8_by_65 rfl ?_
    refine z_iadd h dX8_by_66 ?_
    rw [show 10 * (n' : Int) + k' = ((10 * n' + k' : Nat) : Int) by omega]
    refine z_lald h dX8_by_67 L79 (by decide) (by omega) ?_
    rw [show σ6 79 ((10 * n' + k' : Nat) : Int) = oV x' n' m' k' from g6.2 k' (by omega)]
    refine z_iload_n h dX8_by_68 rfl ?_
    refine z_cSl1 h dX8_by_69 lX8_234 vX8_tens (c_X8_tens _ n' (by omega)) rfl (Nat.le_of_ble_eq_true rfl) (by decide) (fun v4 σ4 g4 => ?_)
    obtain ⟨g4, e4⟩ := g4
    rw [e4, g4]
    refine z_iload h dX8_by_72 rfl ?_
    refine z_cSl3 h dX8_by_74 lX8_248 vX8_lowest (c_X8_lowest _ _ _ pt (oV_r (by omega) (by omega) (by omega) (by omega)) ⟨ten_p _, by have := ten_le (n := n') (by omega); omega⟩ (by omega)) rfl (Nat.le_of_ble_eq_true rfl) (by decide) (fun v5 σ5 g5 => ?_)
    obtain ⟨g5, e5⟩ := g5
    rw [e5, g5]
    refine z_irL h hr dX8_by_77 ?_
    exact ⟨ha.symm, mInv_79 hI g6.1⟩
  · have ha : aBy n k x m pt = -1 := by
      unfold aBy
      rw [if_neg e]
    refine z_iload_n h dX8_by_0 rfl ?_
    refine z_iload_n h dX8_by_1 rfl ?_
    refine z_cSi2 h dX8_by_2 lX8_242 vX8_areOf (c_X8_areOf _ n x hn hx) rfl (Nat.le_of_ble_eq_true rfl) (by decide) (fun v0 σ0 g0 => ?_)
    obtain ⟨g0, e0⟩ := g0
    rw [e0]
    refine z_if_eq h dX8_by_5 (by omega) (fun b5 => ?_) (fun b5 => ?_)
    · refine z_ldc2 (x := -1) h dX8_by_45 kX8_225 (by decide) ?_
      refine z_irL h hr dX8_by_48 ?_
      exact ⟨ha.symm, hI, zfr_rf⟩
    · refine z_iload_n h dX8_by_8 rfl ?_
      refine z_i2l h dX8_by_9 (by omega) ?_
      refine z_lconst (x := 0) h dX8_by_10 (by decide) ?_
      refine z_iload_n h dX8_by_11 rfl ?_
      refine z_iconst h dX8_by_12 ?_
      refine z_isub h dX8_by_13 ?_
      refine z_i2l h dX8_by_14 (by omega) ?_
      refine z_cSi3 h dX8_by_15 lX8_83 vX8_in (c_X8_in _ k (0) (n - 1) (by unfold zlo; omega) (by unfold zlo; omega) (by unfold zlo; omega)) rfl (Nat.le_of_ble_eq_true rfl) (by decide) (fun v1 σ1 g1 => ?_)
      obtain ⟨g1, e1⟩ := g1
      rw [e1]
      refine z_if_eq h dX8_by_18 (by omega) (fun b18 => ?_) (fun b18 => ?_)
      · refine z_ldc2 (x := -1) h dX8_by_45 kX8_225 (by decide) ?_
        refine z_irL h hr dX8_by_48 ?_
        exact ⟨ha.symm, hI, zfr_rf⟩
      · refine z_iload h dX8_by_21 rfl ?_
        refine z_i2l h dX8_by_23 (by omega) ?_
        refine z_lconst (x := 0) h dX8_by_24 (by decide) ?_
        refine z_ldc2 (x := 8) h dX8_by_25 kX8_81 (by decide) ?_
        refine z_cSi3 h dX8_by_28 lX8_83 vX8_in (c_X8_in _ m (0) (8) (by unfold zlo; omega) (by unfold zlo; omega) (by unfold zlo; omega)) rfl (Nat.le_of_ble_eq_true rfl) (by decide) (fun v2 σ2 g2 => ?_)
        obtain ⟨g2, e2⟩ := g2
        rw [e2]
        refine z_if_eq h dX8_by_31 (by omega) (fun b31 => ?_) (fun b31 => ?_)
        · refine z_ldc2 (x := -1) h dX8_by_45 kX8_225 (by decide) ?_
          refine z_irL h hr dX8_by_48 ?_
          exact ⟨ha.symm, hI, zfr_rf⟩
        · refine z_iload h dX8_by_34 rfl ?_
          refine z_i2l h dX8_by_36 (by omega) ?_
          refine z_lconst (x := 0) h dX8_by_37 (by decide) ?_
          refine z_lconst (x := 1) h dX8_by_38 (by decide) ?_
          refine z_cSi3 h dX8_by_39 lX8_83 vX8_in (c_X8_in _ pt (0) (1) (by unfold zlo; omega) (by unfold zlo; omega) (by unfold zlo; omega)) rfl (Nat.le_of_ble_eq_true rfl) (by decide) (fun v3 σ3 g3 => ?_)
          obtain ⟨g3, e3⟩ := g3
          rw [e3]
          refine z_if_ne h dX8_by_42 (by omega) (fun b42 => by exfalso; omega) (fun b42 => ?_)
          refine z_ldc2 (x := -1) h dX8_by_45 kX8_225 (by decide) ?_
          refine z_irL h hr dX8_by_48 ?_
          exact ⟨ha.symm, hI, zfr_rf⟩
theorem c_X8_best (σ : zM) (S : zSt) (hI : mInv σ S) (n x w : Int) (hn : zok n) (hx : zok x) (hw : zok w) : zCi mX8_best (fun u => [zr u 57, zi n, zi x, zi w]) σ (fun r σ' => r = aBest n x w ∧ mInv σ' S ∧ zfr 57 79 σ σ') := by
  refine zCi_mk (own := RX8) rfl (by decide +kernel) (fun w0 => [some (zr w0 57), some (zi n), some (zi x), some (zi w), none, none]) (fun _ => rfl) (fun _ => Nat.le_of_ble_eq_true rfl) ?_
  intro Γ h hr
  unfold zok at hn hx hw
  by_cases e : 1 ≤ n ∧ n ≤ 9 ∧ 0 ≤ x ∧ x ≤ 10 ∧ 0 ≤ w ∧ w ≤ 1
  · obtain ⟨n', rfl⟩ := Int.eq_ofNat_of_zero_le (show 0 ≤ n by omega)
    obtain ⟨x', rfl⟩ := Int.eq_ofNat_of_zero_le (show 0 ≤ x by omega)
    have ha : aBest n' x' w = if w = 0 then (oB n' x' (n' - 1) : Int) else if oM n' (n' - 1) x' < oM n' 0 x' then n' - 1 else 0 := by
      unfold aBest
      rw [if_pos e]
      rfl
    have r1 := oU_r (n := n') (k := n' - 1) (x := x') (by omega) (by omega) (by omega)
    have r2 := oU_r (n := n') (k := 0) (x := x') (by omega) (by omega) (by omega)
    have r3 := oU_lt (n := n') (k := n' - 1) (j := 0) (x := x') (by omega) (by omega) (by omega) (by omega)
    have ez : (zcmp (oU x' n' (n' - 1)) (oU x' n' 0) < 0 ↔ oU x' n' (n' - 1) < oU x' n' 0) ∧ -1 ≤ zcmp (oU x' n' (n' - 1)) (oU x' n' 0) ∧ zcmp (oU x' n' (n' - 1)) (oU x' n' 0) ≤ 1 := by unfold zcmp; split <;> (try split) <;> omega
    have L : ∀ σ3 : zM, mInv σ3 S ∧ zfr 57 79 σ σ3 → (∀ k, k < n' → sm σ3 n' k = oU x' n' k) → w = 0 → ∀ (r j : Nat), j + 1 + r = n' → zV Γ σ3 71 [some (zr (zw Γ) 57), some (zi n'), some (zi x'), some (zi w), some (zi (oB n' x' j)), some (zi (j + 1 : Nat))] [] := by
      intro σ3 hI3 hs hw0 r
      induction r with
      | zero =>
        intro j h1
        refine z_iload h dX8_best_71 rfl ?_
        refine z_iload_n h dX8_best_73 rfl ?_
        refine z_icmp_ge h dX8_best_74 (by omega) (by omega) (fun b74 => ?_) (fun b74 => by exfalso; omega)
        refine z_iload h dX8_best_120 rfl ?_
        refine z_irI h hr dX8_best_122 ?_
        refine ⟨?_, hI3⟩
        rw [ha, if_pos hw0, show n' - 1 = j by omega]
      | succ r ih =>
        intro j h1
        have hb := oB_le n' x' j
        have k1 := hs (j + 1) (by omega)
        have k2 := hs (oB n' x' j) (by omega)
        have q1 := oU_r (n := n') (k := j + 1) (x := x') (by omega) (by omega) (by omega)
        have q2 := oU_r (n := n') (k := oB n' x' j) (x := x') (by omega) (by omega) (by omega)
        have q3 := oU_lt (n := n') (k := j + 1) (j := oB n' x' j) (x := x') (by omega) (by omega) (by omega) (by omega)
        have ez : (zcmp (oU x' n' (j + 1)) (oU x' n' (oB n' x' j)) < 0 ↔ oU x' n' (j + 1) < oU x' n' (oB n' x' j)) ∧ -1 ≤ zcmp (oU x' n' (j + 1)) (oU x' n' (oB n' x' j)) ∧ zcmp (oU x' n' (j + 1)) (oU x' n' (oB n' x' j)) ≤ 1 := by unfold zcmp; split <;> (try split) <;> omega
        have i1 := ih (j + 1) (by omega)
        refine z_iload h dX8_best_71 rfl ?_
        refine z_iload_n h dX8_best_73 rfl ?_
        refine z_icmp_ge h dX8_best_74 (by omega) (by omega) (fun b74 => by exfalso; omega) (fun b74 => ?_)
        refine z_raload_n h dX8_best_77 rfl ?_
        refine z_getr h dX8_best_78 fX8_73 L57 rfl ?_
        refine z_bipush h dX8_best_81 (by decide) ?_
        refine z_iload_n h dX8_best_83 rfl ?_
        refine z_imul h dX8_best_84 ?_
        refine z_iload h dX8_best_85 rfl ?_
        refine z_iadd h dX8_best_87 ?_
        rw [show 10 * (n' : Int) + ((j + 1 : Nat) : Int) = ((10 * n' + (j + 1) : Nat) : Int) by omega]
        refine z_lald h dX8_best_88 L79 (by decide) (by omega) ?_
        rw [show σ3 79 ((10 * n' + (j + 1) : Nat) : Int) = oU x' n' (j + 1) from k1]
        refine z_raload_n h dX8_best_89 rfl ?_
        refine z_getr h dX8_best_90 fX8_73 L57 rfl ?_
        refine z_bipush h dX8_best_93 (by decide) ?_
        refine z_iload_n h dX8_best_95 rfl ?_
        refine z_imul h dX8_best_96 ?_
        refine z_iload h dX8_best_97 rfl ?_
        refine z_iadd h dX8_best_99 ?_
        rw [show 10 * (n' : Int) + (oB n' x' j : Int) = ((10 * n' + oB n' x' j : Nat) : Int) by omega]
        refine z_lald h dX8_best_100 L79 (by decide) (by omega) ?_
        rw [show σ3 79 ((10 * n' + oB n' x' j : Nat) : Int) = oU x' n' (oB n' x' j) from k2]
        refine z_lcmp h dX8_best_101 (by omega) (by omega) ?_
        refine z_if_ge h dX8_best_102 (by omega) (fun b102 => ?_) (fun b102 => ?_)
        · refine z_iload h dX8_best_110 rfl ?_
          refine z_ist1 h dX8_best_112 (by decide) (zst1_4 rfl) ?_
          refine z_iinc h dX8_best_114 (by decide) rfl (zst1_5 rfl) ?_
          refine z_goto h dX8_best_117 ?_
          rw [show ((j + 1 : Nat) : Int) + 1 = ((j + 1 + 1 : Nat) : Int) by omega]
          first
            | (rw [oB, if_pos (by omega)] at i1; exact i1)
            | (rw [oB, if_neg (by omega)] at i1; exact i1)
        · refine z_iload h dX8_best_105 rfl ?_
          refine z_goto h dX8_best_107 ?_
          refine z_ist1 h dX8_best_112 (by decide) (zst1_4 rfl) ?_
          refine z_iinc h dX8_best_114 (by decide) rfl (zst1_5 rfl) ?_
          refine z_goto h dX8_best_117 ?_
          rw [show ((j + 1 : Nat) : Int) + 1 = ((j + 1 + 1 : Nat) : Int) by omega]
          first
            | (rw [oB, if_pos (by omega)] at i1; exact i1)
            | (rw [oB, if_neg (by omega)] at i1; exact i1)
    refine z_iload_n h dX8_best_0 rfl ?_
    refine z_iload_n h dX8_best_1 rfl ?_
    refine z_cSi2 h dX8_best_2 lX8_242 vX8_areOf (c_X8_areOf _ n' x' (by unfold zok; omega) (by unfold zok; omega)) rfl (Nat.le_of_ble_eq_true rfl) (by decide) (fun v0 σ0 g0 => ?_)
    obtain ⟨g0, e0⟩ := g0
    rw [e0]
    refine z_if_eq h dX8_best_5 (by omega) (fun b5 => by exfalso; omega) (fun b5 => ?_)
    refine z_iload_n h dX8_best_8 rfl ?_
    refine z_i2l h dX8_best_9 (by omega) ?_
    refine z_lconst (x := 0) h dX8_best_10 (by decide) ?_
    refine z_lconst (x := 1) h dX8_best_11 (by decide) ?_
    refine z_cSi3 h dX8_best_12 lX8_83 vX8_in (c_X8_in _ w (0) (1) (by unfold zlo; omega) (by unfold zlo; omega) (by unfold zlo; omega)) rfl (Nat.le_of_ble_eq_true rfl) (by decide) (fun v2 σ2 g2 => ?_)
    obtain ⟨g2, e2⟩ := g2
    rw [e2]
    refine z_if_ne h dX8_best_15 (by omega) (fun b15 => ?_) (fun b15 => by exfalso; omega)
    refine z_raload_n h dX8_best_20 rfl ?_
    refine z_iload_n h dX8_best_21 rfl ?_
    refine z_iload_n h dX8_best_22 rfl ?_
    refine z_cVv2 h dX8_best_23 lX8_245 vX8_layMeans rfl L57 (c_X8_layMeans _ n' x' (by omega) (by omega)) rfl (Nat.le_of_ble_eq_true rfl) (by decide) (fun σ3 g3 => ?_)
    refine z_iload_n h dX8_best_26 rfl ?_
    refine z_iconst h dX8_best_27 ?_
    refine z_icmp_ne h dX8_best_28 (by omega) (by omega) (fun b28 => ?_) (fun b28 => ?_)
    · refine z_iconst h dX8_best_65 ?_
      refine z_ist1 h dX8_best_66 (by decide) (zst1_4 rfl) ?_
      refine z_iconst h dX8_best_68 ?_
      refine z_ist1 h dX8_best_69 (by decide) (zst1_5 rfl) ?_
      exact L σ3 (mInv_79 hI g3.1) g3.2 (by omega) (n' - 1) 0 (by omega)
    · refine z_raload_n h dX8_best_31 rfl ?_
      refine z_getr h dX8_best_32 fX8_73 L57 rfl ?_
      refine z_bipush h dX8_best_35 (by decide) ?_
      refine z_iload_n h dX8_best_37 rfl ?_
      refine z_imul h dX8_best_38 ?_
      refine z_iload_n h dX8_best_39 rfl ?_
      refine z_iadd h dX8_best_40 ?_
      refine z_iconst h dX8_best_41 ?_
      refine z_isub h dX8_best_42 ?_
      rw [show 10 * (n' : Int) + n' - 1 = ((10 * n' + (n' - 1) : Nat) : Int) by omega]
      refine z_lald h dX8_best_43 L79 (by decide) (by omega) ?_
      rw [show σ3 79 ((10 * n' + (n' - 1) : Nat) : Int) = oU x' n' (n' - 1) from g3.2 (n' - 1) (by omega)]
      refine z_raload_n h dX8_best_44 rfl ?_
      refine z_getr h dX8_best_45 fX8_73 L57 rfl ?_
      refine z_bipush h dX8_best_48 (by decide) ?_
      refine z_iload_n h dX8_best_50 rfl ?_
      refine z_imul h dX8_best_51 ?_
      rw [show 10 * (n' : Int) = ((10 * n' + 0 : Nat) : Int) by omega]
      refine z_lald h dX8_best_52 L79 (by decide) (by omega) ?_
      rw [show σ3 79 ((10 * n' + 0 : Nat) : Int) = oU x' n' 0 from g3.2 0 (by omega)]
      refine z_lcmp h dX8_best_53 (by omega) (by omega) ?_
      refine z_if_ge h dX8_best_54 (by omega) (fun b54 => ?_) (fun b54 => ?_)
      · refine z_iconst h dX8_best_63 ?_
        refine z_irI h hr dX8_best_64 ?_
        refine ⟨?_, mInv_79 hI g3.1⟩
        rw [ha, if_neg (by omega)]
        first
          | (rw [if_pos (by omega)]; done)
          | (rw [if_neg (by omega)]; done)
      · refine z_iload_n h dX8_best_57 rfl ?_
        refine z_iconst h dX8_best_58 ?_
        refine z_isub h dX8_best_59 ?_
        refine z_goto h dX8_best_60 ?_
        refine z_irI h hr dX8_best_64 ?_
        refine ⟨?_, mInv_79 hI g3.1⟩
        rw [ha, if_neg (by omega)]
        first
          | (rw [if_pos (by omega)]; done)
          | (rw [if_neg (by omega)]; done)
  · have ha : aBest n x w = -1 := by
      unfold aBest
      rw [if_neg e]
    refine z_iload_n h dX8_best_0 rfl ?_
    refine z_iload_n h dX8_best_1 rfl ?_
    refine z_cSi2 h dX8_best_2 lX8_242 vX8_areOf (c_X8_areOf _ n x hn hx) rfl (Nat.le_of_ble_eq_true rfl) (by decide) (fun v0 σ0 g0 => ?_)
    obtain ⟨g0, e0⟩ := g0
    rw [e0]
    refine z_if_eq h dX8_best_5 (by omega) (fun b5 => ?_) (fun b5 => ?_)
    · refine z_iconst h dX8_best_18 ?_
      refine z_irI h hr dX8_best_19 ?_
      exact ⟨ha.symm, hI, zfr_rf⟩
    · refine z_iload_n h dX8_best_8 rfl ?_
      refine z_i2l h dX8_best_9 (by omega) ?_
      refine z_lconst (x := 0) h dX8_best_10 (by decide) ?_
      refine z_lconst (x := 1) h dX8_best_11 (by decide) ?_
      refine z_cSi3 h dX8_best_12 lX8_83 vX8_in (c_X8_in _ w (0) (1) (by unfold zlo; omega) (by unfold zlo; omega) (by unfold zlo; omega)) rfl (Nat.le_of_ble_eq_true rfl) (by decide) (fun v2 σ2 g2 => ?_)
      obtain ⟨g2, e2⟩ := g2
      rw [e2]
      refine z_if_ne h dX8_best_15 (by omega) (fun b15 => by exfalso; omega) (fun b15 => ?_)
      refine z_iconst h dX8_best_18 ?_
      refine z_irI h hr dX8_best_19 ?_
      exact ⟨ha.symm, hI, zfr_rf⟩
