theorem oA_rgF : ∀ n : Fin 10, ∀ k : Fin 9, ∀ x : Fin 11, ∀ t : Fin 9, k.val < n.val → 0 ≤ oA n.val k.val x.val t.val ∧ oA n.val k.val x.val t.val ≤ 1000000000 := by decide +kernel
theorem oA_rg {n k x : Nat} (hn : n ≤ 9) (hk : k < n) (hx : x ≤ 10) (t : Nat) : 0 ≤ oA n k x t ∧ oA n k x t ≤ 1000000000 := by
  by_cases ht : t < 9
  · exact oA_rgF ⟨n, by omega⟩ ⟨k, by omega⟩ ⟨x, by omega⟩ ⟨t, ht⟩ hk
  · unfold oA
    rw [List.getD_eq_getElem?_getD, List.getElem?_eq_none (by rw [oS_len]; omega)]
    simp
theorem oC_r {n k x m : Nat} (hn : n ≤ 9) (hk : k < n) (hx : x ≤ 10) (hm : m ≤ 8) : 0 ≤ oC n k x m ∧ oC n k x m ≤ 10000000000 := by
  have := zsum_rg (f := oA n k x) (m := 1000000000) (by omega) (oA_rg hn hk hx) (m + 1)
  unfold oC
  omega
theorem oLow_rg {a b pt : Int} (ha : 0 ≤ a ∧ a ≤ 10000000000) (hb : 0 ≤ b ∧ b ≤ 10000000000) : 0 ≤ oLow a b pt ∧ oLow a b pt ≤ 10000000000 := by
  have key : ∀ (v : Int) (g : Nat), 0 ≤ v ∧ v ≤ 10000000000 → 0 ≤ v / (g : Int) ∧ v / (g : Int) ≤ 10000000000 := by
    intro v g hv
    refine ⟨Int.ediv_nonneg hv.1 (by omega), ?_⟩
    have : v / (g : Int) ≤ v := by
      obtain ⟨n, rfl⟩ := Int.eq_ofNat_of_zero_le hv.1
      rw [← Int.natCast_ediv]
      have := Nat.div_le_self n g
      omega
    omega
  unfold oLow
  split
  · exact key a _ ha
  · exact key b _ hb
def aMean (n k x pt : Int) : Int := if 1 ≤ n ∧ n ≤ 9 ∧ 0 ≤ x ∧ x ≤ 10 ∧ 0 ≤ k ∧ k < n ∧ 0 ≤ pt ∧ pt ≤ 1 then oLow (oM n.toNat k.toNat x.toNat) 1000000000 pt else -1
theorem c_X7_mean (σ : zM) (S : zSt) (hI : cInv σ S) (n k x pt : Int) (hn : zok n) (hk : zok k) (hx : zok x) (hpt : zok pt) : zCl mX7_mean (fun u => [zr u 0, zi n, zi k, zi x, zi pt]) σ (fun r σ' => r = aMean n k x pt ∧ (-1 ≤ r ∧ r ≤ 10000000000) ∧ cInv σ' S ∧ zfr 0 56 σ σ') := by
  refine zCl_mk (own := RX7) rfl (by decide +kernel) (fun w => [some (zr w 0), some (zi n), some (zi k), some (zi x), some (zi pt)]) (fun _ => rfl) (fun _ => Nat.le_of_ble_eq_true rfl) ?_
  intro Γ h hr
  have hn' := hn
  have hx' := hx
  unfold zok at hn' hk hx' hpt
  have fin : ∀ σ' r, r = aMean n k x pt → (-1 ≤ r ∧ r ≤ 10000000000) → zfr 4 26 σ σ' → r = aMean n k x pt ∧ (-1 ≤ r ∧ r ≤ 10000000000) ∧ cInv σ' S ∧ zfr 0 56 σ σ' := fun σ' r a b c => ⟨a, b, cInv_fr hI c, zfr_mono c (by omega) (by omega)⟩
  by_cases ho : 1 ≤ n ∧ n ≤ 9 ∧ 0 ≤ x ∧ x ≤ 10
  · obtain ⟨nn, rfl⟩ := Int.eq_ofNat_of_zero_le (show 0 ≤ n by omega)
    obtain ⟨xn, rfl⟩ := Int.eq_ofNat_of_zero_le ho.2.2.1
    have G : 0 ≤ k ∧ k < nn → 0 ≤ pt ∧ pt ≤ 1 → zV Γ σ 32 [some (zr (zw Γ) 0), some (zi nn), some (zi k), some (zi xn), some (zi pt)] [] := by
      intro hk1 hp1
      obtain ⟨kn, rfl⟩ := Int.eq_ofNat_of_zero_le hk1.1
      have r1 := oM_r (n := nn) (k := kn) (x := xn) (by omega) (by omega) (by omega)
      refine z_raload_n h dX7_mean_32 rfl ?_
      refine z_getr h dX7_mean_33 fX7_31 L0 rfl ?_
      refine z_raload_n h dX7_mean_36 rfl ?_
      refine z_getr h dX7_mean_37 fX7_31 L0 rfl ?_
      refine z_iload_n h dX7_mean_40 rfl ?_
      refine z_iload_n h dX7_mean_41 rfl ?_
      refine z_iload_n h dX7_mean_42 rfl ?_
      refine z_cVl3 h dX7_mean_43 lX7_206 vX3_meanAbove rfl L23 (c_X3_meanAbove σ nn kn xn (by omega) (by omega) (by omega)) rfl (Nat.le_of_ble_eq_true rfl) (by decide) (fun v σ1 g1 => ?_)
      obtain ⟨g1, rfl⟩ := g1
      refine z_iload h dX7_mean_46 rfl ?_
      refine z_cVl2 h dX7_mean_48 lX7_210 vX3_lowest rfl L23 (c_X3_lowest σ1 _ pt r1 (by omega)) rfl (Nat.le_of_ble_eq_true rfl) (by decide) (fun v2 σ2 g2 => ?_)
      obtain ⟨rfl, rfl⟩ := g2
      refine z_irL h hr dX7_mean_51 ?_
      have r2 := oLow_rg (pt := pt) r1 (show 0 ≤ (1000000000 : Int) ∧ (1000000000 : Int) ≤ 10000000000 by omega)
      refine fin _ _ ?_ (by omega) (zfr_mono g1 (by omega) (by omega))
      unfold aMean
      rw [if_pos (by omega)]
      rfl
    refine z_iload_n h dX7_mean_0 rfl ?_
    refine z_iload_n h dX7_mean_1 rfl ?_
    refine z_cSi2 h dX7_mean_2 lX7_201 vX7_areOdds (c_X7_areOdds σ _ _ hn hx) rfl (Nat.le_of_ble_eq_true rfl) (by decide) (fun v σ1 g1 => ?_)
    obtain ⟨g1a, g1b⟩ := g1
    rw [if_pos ho] at g1a
    subst g1a
    subst g1b
    refine z_if_eq h dX7_mean_5 (by omega) (fun b5 => by exfalso; omega) (fun b5 => ?_)
    refine z_iload_n h dX7_mean_8 rfl ?_
    refine z_if_lt h dX7_mean_9 (by omega) (fun b9 => ?_) (fun b9 => ?_)
    · refine z_ldc2 (x := -1) h dX7_mean_28 kX7_204 (by decide) ?_
      refine z_irL h hr dX7_mean_31 ?_
      exact fin _ _ (by unfold aMean; rw [if_neg (by omega)]) (by omega) zfr_rf
    · refine z_iload_n h dX7_mean_12 rfl ?_
      refine z_iload_n h dX7_mean_13 rfl ?_
      refine z_icmp_ge h dX7_mean_14 (by omega) (by omega) (fun b14 => ?_) (fun b14 => ?_)
      · refine z_ldc2 (x := -1) h dX7_mean_28 kX7_204 (by decide) ?_
        refine z_irL h hr dX7_mean_31 ?_
        exact fin _ _ (by unfold aMean; rw [if_neg (by omega)]) (by omega) zfr_rf
      · refine z_iload h dX7_mean_17 rfl ?_
        refine z_if_lt h dX7_mean_19 (by omega) (fun b19 => ?_) (fun b19 => ?_)
        · refine z_ldc2 (x := -1) h dX7_mean_28 kX7_204 (by decide) ?_
          refine z_irL h hr dX7_mean_31 ?_
          exact fin _ _ (by unfold aMean; rw [if_neg (by omega)]) (by omega) zfr_rf
        · refine z_iload h dX7_mean_22 rfl ?_
          refine z_iconst h dX7_mean_24 ?_
          refine z_icmp_le h dX7_mean_25 (by omega) (by omega) (fun b25 => ?_) (fun b25 => ?_)
          · exact G (by omega) (by omega)
          · refine z_ldc2 (x := -1) h dX7_mean_28 kX7_204 (by decide) ?_
            refine z_irL h hr dX7_mean_31 ?_
            exact fin _ _ (by unfold aMean; rw [if_neg (by omega)]) (by omega) zfr_rf
  · refine z_iload_n h dX7_mean_0 rfl ?_
    refine z_iload_n h dX7_mean_1 rfl ?_
    refine z_cSi2 h dX7_mean_2 lX7_201 vX7_areOdds (c_X7_areOdds σ n x hn hx) rfl (Nat.le_of_ble_eq_true rfl) (by decide) (fun v σ1 g1 => ?_)
    obtain ⟨rfl, rfl⟩ := g1
    rw [if_neg ho]
    refine z_if_eq h dX7_mean_5 (by omega) (fun b5 => ?_) (fun b5 => by exfalso; omega)
    refine z_ldc2 (x := -1) h dX7_mean_28 kX7_204 (by decide) ?_
    refine z_irL h hr dX7_mean_31 ?_
    exact fin _ _ (by unfold aMean; rw [if_neg (by omega)]) (by omega) zfr_rf
def aBy (n k x m pt : Int) : Int := if 1 ≤ n ∧ n ≤ 9 ∧ 0 ≤ x ∧ x ≤ 10 ∧ 0 ≤ k ∧ k < n ∧ 0 ≤ m ∧ m ≤ 8 ∧ 0 ≤ pt ∧ pt ≤ 1 then oLow (oC n.toNat k.toNat x.toNat m.toNat) 1000000000 pt else -1
theorem c_X7_by (σ : zM) (S : zSt) (hI : cInv σ S) (n k x m pt : Int) (hn : zok n) (hk : zok k) (hx : zok x) (hm : zok m) (hpt : zok pt) : zCl mX7_by (fun u => [zr u 0, zi n, zi k, zi x, zi m, zi pt]) σ (fun r σ' => r = aBy n k x m pt ∧ (-1 ≤ r ∧ r ≤ 10000000000) ∧ cInv σ' S ∧ zfr 0 56 σ σ') := by
  refine zCl_mk (own := RX7) rfl (by decide +kernel) (fun w => [some (zr w 0), some (zi n), some (zi k), some (zi x), some (zi m), some (zi pt)]) (fun _ => rfl) (fun _ => Nat.le_of_ble_eq_true rfl) ?_
  intro Γ h hr
  have hn' := hn
  have hx' := hx
  unfold zok at hn' hk hx' hpt hm
  have fin : ∀ σ' r, r = aBy n k x m pt → (-1 ≤ r ∧ r ≤ 10000000000) → zfr 4 26 σ σ' → r = aBy n k x m pt ∧ (-1 ≤ r ∧ r ≤ 10000000000) ∧ cInv σ' S ∧ zfr 0 56 σ σ' := fun σ' r a b c => ⟨a, b, cInv_fr hI c, zfr_mono c (by omega) (by omega)⟩
  by_cases ho : 1 ≤ n ∧ n ≤ 9 ∧ 0 ≤ x ∧ x ≤ 10
  · obtain ⟨nn, rfl⟩ := Int.eq_ofNat_of_zero_le (show 0 ≤ n by omega)
    obtain ⟨xn, rfl⟩ := Int.eq_ofNat_of_zero_le ho.2.2.1
    have G : 0 ≤ k ∧ k < nn → 0 ≤ m ∧ m ≤ 8 → 0 ≤ pt ∧ pt ≤ 1 → zV Γ σ 44 [some (zr (zw Γ) 0), some (zi nn), some (zi k), some (zi xn), some (zi m), some (zi pt)] [] := by
      intro hk1 hm1 hp1
      obtain ⟨kn, rfl⟩ := Int.eq_ofNat_of_zero_le hk1.1
      obtain ⟨mn, rfl⟩ := Int.eq_ofNat_of_zero_le hm1.1
      have r1 := oC_r (n := nn) (k := kn) (x := xn) (m := mn) (by omega) (by omega) (by omega) (by omega)
      refine z_raload_n h dX7_by_44 rfl ?_
      refine z_getr h dX7_by_45 fX7_31 L0 rfl ?_
      refine z_raload_n h dX7_by_48 rfl ?_
      refine z_getr h dX7_by_49 fX7_31 L0 rfl ?_
      refine z_iload_n h dX7_by_52 rfl ?_
      refine z_iload_n h dX7_by_53 rfl ?_
      refine z_iload_n h dX7_by_54 rfl ?_
      refine z_iload h dX7_by_55 rfl ?_
      refine z_cVl4 h dX7_by_57 lX7_214 vX3_chanceAbove rfl L23 (c_X3_chanceAbove σ nn kn xn mn (by omega) (by omega) (by omega) (by omega)) rfl (Nat.le_of_ble_eq_true rfl) (by decide) (fun v σ1 g1 => ?_)
      obtain ⟨g1, rfl⟩ := g1
      refine z_iload h dX7_by_60 rfl ?_
      refine z_cVl2 h dX7_by_62 lX7_210 vX3_lowest rfl L23 (c_X3_lowest σ1 _ pt r1 (by omega)) rfl (Nat.le_of_ble_eq_true rfl) (by decide) (fun v2 σ2 g2 => ?_)
      obtain ⟨rfl, rfl⟩ := g2
      refine z_irL h hr dX7_by_65 ?_
      have r2 := oLow_rg (pt := pt) r1 (show 0 ≤ (1000000000 : Int) ∧ (1000000000 : Int) ≤ 10000000000 by omega)
      refine fin _ _ ?_ (by omega) (zfr_mono g1 (by omega) (by omega))
      unfold aBy
      rw [if_pos (by omega)]
      rfl
    refine z_iload_n h dX7_by_0 rfl ?_
    refine z_iload_n h dX7_by_1 rfl ?_
    refine z_cSi2 h dX7_by_2 lX7_201 vX7_areOdds (c_X7_areOdds σ _ _ hn hx) rfl (Nat.le_of_ble_eq_true rfl) (by decide) (fun v σ1 g1 => ?_)
    obtain ⟨g1a, g1b⟩ := g1
    rw [if_pos ho] at g1a
    subst g1a
    subst g1b
    refine z_if_eq h dX7_by_5 (by omega) (fun b5 => by exfalso; omega) (fun b5 => ?_)
    refine z_iload_n h dX7_by_8 rfl ?_
    refine z_if_lt h dX7_by_9 (by omega) (fun b9 => ?_) (fun b9 => ?_)
    · refine z_ldc2 (x := -1) h dX7_by_40 kX7_204 (by decide) ?_
      refine z_irL h hr dX7_by_43 ?_
      exact fin _ _ (by unfold aBy; rw [if_neg (by omega)]) (by omega) zfr_rf
    · refine z_iload_n h dX7_by_12 rfl ?_
      refine z_iload_n h dX7_by_13 rfl ?_
      refine z_icmp_ge h dX7_by_14 (by omega) (by omega) (fun b14 => ?_) (fun b14 => ?_)
      · refine z_ldc2 (x := -1) h dX7_by_40 kX7_204 (by decide) ?_
        refine z_irL h hr dX7_by_43 ?_
        exact fin _ _ (by unfold aBy; rw [if_neg (by omega)]) (by omega) zfr_rf
      · refine z_iload h dX7_by_17 rfl ?_
        refine z_if_lt h dX7_by_19 (by omega) (fun b19 => ?_) (fun b19 => ?_)
        · refine z_ldc2 (x := -1) h dX7_by_40 kX7_204 (by decide) ?_
          refine z_irL h hr dX7_by_43 ?_
          exact fin _ _ (by unfold aBy; rw [if_neg (by omega)]) (by omega) zfr_rf
        · refine z_iload h dX7_by_22 rfl ?_
          refine z_bipush h dX7_by_24 (by decide) ?_
          refine z_icmp_ge h dX7_by_26 (by omega) (by omega) (fun b26 => ?_) (fun b26 => ?_)
          · refine z_ldc2 (x := -1) h dX7_by_40 kX7_204 (by decide) ?_
            refine z_irL h hr dX7_by_43 ?_
            exact fin _ _ (by unfold aBy; rw [if_neg (by omega)]) (by omega) zfr_rf
          · refine z_iload h dX7_by_29 rfl ?_
            refine z_if_lt h dX7_by_31 (by omega) (fun b31 => ?_) (fun b31 => ?_)
            · refine z_ldc2 (x := -1) h dX7_by_40 kX7_204 (by decide) ?_
              refine z_irL h hr dX7_by_43 ?_
              exact fin _ _ (by unfold aBy; rw [if_neg (by omega)]) (by omega) zfr_rf
            · refine z_iload h dX7_by_34 rfl ?_
              refine z_iconst h dX7_by_36 ?_
              refine z_icmp_le h dX7_by_37 (by omega) (by omega) (fun b37 => ?_) (fun b37 => ?_)
              · exact G (by omega) (by omega) (by omega)
              · refine z_ldc2 (x := -1) h dX7_by_40 kX7_204 (by decide) ?_
                refine z_irL h hr dX7_by_43 ?_
                exact fin _ _ (by unfold aBy; rw [if_neg (by omega)]) (by omega) zfr_rf
  · refine z_iload_n h dX7_by_0 rfl ?_
    refine z_iload_n h dX7_by_1 rfl ?_
    refine z_cSi2 h dX7_by_2 lX7_201 vX7_areOdds (c_X7_areOdds σ n x hn hx) rfl (Nat.le_of_ble_eq_true rfl) (by decide) (fun v σ1 g1 => ?_)
    obtain ⟨rfl, rfl⟩ := g1
    rw [if_neg ho]
    refine z_if_eq h dX7_by_5 (by omega) (fun b5 => ?_) (fun b5 => by exfalso; omega)
    refine z_ldc2 (x := -1) h dX7_by_40 kX7_204 (by decide) ?_
    refine z_irL h hr dX7_by_43 ?_
    exact fin _ _ (by unfold aBy; rw [if_neg (by omega)]) (by omega) zfr_rf
def aBest (n x w : Int) : Int := if 1 ≤ n ∧ n ≤ 9 ∧ 0 ≤ x ∧ x ≤ 10 ∧ 0 ≤ w ∧ w ≤ 1 then (if w = 0 then (oB n.toNat x.toNat (n.toNat - 1) : Int) else if oM n.toNat (n.toNat - 1) x.toNat < oM n.toNat 0 x.toNat then n - 1 else 0) else -1
theorem c_X7_best (σ : zM) (S : zSt) (hI : cInv σ S) (n x w : Int) (hn : zok n) (hx : zok x) (hw : zok w) : zCi mX7_best (fun u => [zr u 0, zi n, zi x, zi w]) σ (fun r σ' => r = aBest n x w ∧ zok r ∧ cInv σ' S ∧ zfr 0 56 σ σ') := by
  refine zCi_mk (own := RX7) rfl (by decide +kernel) (fun w0 => [some (zr w0 0), some (zi n), some (zi x), some (zi w)]) (fun _ => rfl) (fun _ => Nat.le_of_ble_eq_true rfl) ?_
  intro Γ h hr
  have hn' := hn
  have hx' := hx
  unfold zok at hn' hx' hw
  have fin : ∀ σ' r, r = aBest n x w → zok r → zfr 4 26 σ σ' → r = aBest n x w ∧ zok r ∧ cInv σ' S ∧ zfr 0 56 σ σ' := fun σ' r a b c => ⟨a, b, cInv_fr hI c, zfr_mono c (by omega) (by omega)⟩
  by_cases ho : 1 ≤ n ∧ n ≤ 9 ∧ 0 ≤ x ∧ x ≤ 10
  · obtain ⟨nn, rfl⟩ := Int.eq_ofNat_of_zero_le (show 0 ≤ n by omega)
    obtain ⟨xn, rfl⟩ := Int.eq_ofNat_of_zero_le ho.2.2.1
    refine z_iload_n h dX7_best_0 rfl ?_
    refine z_iload_n h dX7_best_1 rfl ?_
    refine z_cSi2 h dX7_best_2 lX7_201 vX7_areOdds (c_X7_areOdds σ _ _ hn hx) rfl (Nat.le_of_ble_eq_true rfl) (by decide) (fun v σ1 g1 => ?_)
    obtain ⟨g1a, g1b⟩ := g1
    rw [if_pos ho] at g1a
    subst g1a
    subst g1b
    refine z_if_eq h dX7_best_5 (by omega) (fun b5 => by exfalso; omega) (fun b5 => ?_)
    refine z_iload_n h dX7_best_8 rfl ?_
    refine z_if_lt h dX7_best_9 (by omega) (fun b9 => ?_) (fun b9 => ?_)
    · refine z_iconst h dX7_best_17 ?_
      refine z_irI h hr dX7_best_18 ?_
      exact fin _ _ (by unfold aBest; rw [if_neg (by omega)]) (by unfold zok; omega) zfr_rf
    · refine z_iload_n h dX7_best_12 rfl ?_
      refine z_iconst h dX7_best_13 ?_
      refine z_icmp_le h dX7_best_14 (by omega) (by omega) (fun b14 => ?_) (fun b14 => ?_)
      · refine z_iload_n h dX7_best_19 rfl ?_
        refine z_if_ne h dX7_best_20 (by omega) (fun b20 => ?_) (fun b20 => ?_)
        · refine z_raload_n h dX7_best_35 rfl ?_
          refine z_getr h dX7_best_36 fX7_31 L0 rfl ?_
          refine z_iload_n h dX7_best_39 rfl ?_
          refine z_iload_n h dX7_best_40 rfl ?_
          refine z_cVi2 h dX7_best_41 lX7_222 vX3_bestEnd rfl L23 (c_X3_bestEnd σ1 nn xn (by omega) (by omega)) rfl (Nat.le_of_ble_eq_true rfl) (by decide) (fun v2 σ2 g2 => ?_)
          refine z_irI h hr dX7_best_44 ?_
          have r1 := oB_le nn xn (nn - 1)
          have g3 := g2.2
          refine fin _ _ ?_ ?_ (zfr_mono g2.1 (by omega) (by omega))
          · unfold aBest
            rw [if_pos (by omega), Int.toNat_natCast, Int.toNat_natCast]
            first
              | (rw [if_pos (by omega)]; exact g3)
              | (rw [if_neg (by omega)]; exact g3)
          · unfold zok
            first
              | omega
              | (rw [g3]; split <;> omega)
        · refine z_raload_n h dX7_best_23 rfl ?_
          refine z_getr h dX7_best_24 fX7_31 L0 rfl ?_
          refine z_iload_n h dX7_best_27 rfl ?_
          refine z_iload_n h dX7_best_28 rfl ?_
          refine z_cVi2 h dX7_best_29 lX7_218 vX3_bestPlace rfl L23 (c_X3_bestPlace σ1 nn xn (by omega) (by omega)) rfl (Nat.le_of_ble_eq_true rfl) (by decide) (fun v2 σ2 g2 => ?_)
          refine z_goto h dX7_best_32 ?_
          refine z_irI h hr dX7_best_44 ?_
          have r1 := oB_le nn xn (nn - 1)
          have g3 := g2.2
          refine fin _ _ ?_ ?_ (zfr_mono g2.1 (by omega) (by omega))
          · unfold aBest
            rw [if_pos (by omega), Int.toNat_natCast, Int.toNat_natCast]
            first
              | (rw [if_pos (by omega)]; exact g3)
              | (rw [if_neg (by omega)]; exact g3)
          · unfold zok
            first
              | omega
              | (rw [g3]; split <;> omega)
      · refine z_iconst h dX7_best_17 ?_
        refine z_irI h hr dX7_best_18 ?_
        exact fin _ _ (by unfold aBest; rw [if_neg (by omega)]) (by unfold zok; omega) zfr_rf
  · refine z_iload_n h dX7_best_0 rfl ?_
    refine z_iload_n h dX7_best_1 rfl ?_
    refine z_cSi2 h dX7_best_2 lX7_201 vX7_areOdds (c_X7_areOdds σ n x hn hx) rfl (Nat.le_of_ble_eq_true rfl) (by decide) (fun v σ1 g1 => ?_)
    obtain ⟨rfl, rfl⟩ := g1
    rw [if_neg ho]
    refine z_if_eq h dX7_best_5 (by omega) (fun b5 => ?_) (fun b5 => by exfalso; omega)
    refine z_iconst h dX7_best_17 ?_
    refine z_irI h hr dX7_best_18 ?_
    exact fin _ _ (by unfold aBest; rw [if_neg (by omega)]) (by unfold zok; omega) zfr_rf
theorem cInv_names {σ σ' : zM} {S : zSt} (h : cInv σ S) (hf : zfr 27 29 σ σ') (sv sd : List Int) (hn : cNames σ' sv sd) : cInv σ' (S.1, S.2.1, S.2.2.1, S.2.2.2.1, sv, sd) := by
  obtain ⟨la, mu, h1, h2, h3, h4, ⟨l, h5⟩, h6, h7, h8, ⟨⟨l1, h9⟩, l2, h10⟩, h11, h12⟩ := h
  have p1 : 39 ≤ la ∧ 39 ≤ mu := by unfold zPl at h1; omega
  have f0 := hf 0 (by omega)
  exact ⟨la, mu, h1, by rw [f0, f0]; exact h2, cText_fr h3 (hf 1 (by omega) 2) (fun i => hf 2 (by omega) i) (fun i a b => by rw [hf 3 (by omega)]; exact h3.2.2.2 i a b), cPlan_fr h4 (fun c a b i => hf c (by omega) i), ⟨l, cCry_fr h5 (fun c a b i => hf c (by omega) i)⟩, by rw [f0]; exact h6, by rw [f0]; exact h7, fun k l hk => ⟨cCry_fr (h8 k l hk).1 (fun c a b i => hf c (by have := (List.getElem?_eq_some_iff.mp hk).1; omega) i), (h8 k l hk).2⟩, ⟨⟨l1, cCry_fr h9 (fun c a b i => hf c (by omega) i)⟩, l2, cCry_fr h10 (fun c a b i => hf c (by omega) i)⟩, hn, h12⟩
def nName (S : zSt) (w v : Int) : zSt × Int := if (0 ≤ w ∧ w ≤ 1) ∧ (0 ≤ v ∧ v ≤ 10) ∧ ¬ (w = 1 ∧ v = 10) then (if v ≠ 10 ∧ v ∈ nL w S.2.2.2.2.1 S.2.2.2.2.2 then (S, -2) else if 9 ≤ (nL w S.2.2.2.2.1 S.2.2.2.2.2).length then (S, -3) else ((S.1, S.2.1, S.2.2.1, S.2.2.2.1, (if w = 0 then S.2.2.2.2.1 ++ [v] else S.2.2.2.2.1), (if w = 0 then S.2.2.2.2.2 else S.2.2.2.2.2 ++ [v])), ((nL w S.2.2.2.2.1 S.2.2.2.2.2).length : Int) + 1)) else (S, -1)
theorem c_X7_name (σ : zM) (S : zSt) (hI : cInv σ S) (w v : Int) (hw : zok w) (hv : zok v) : zCi mX7_name (fun u => [zr u 0, zi w, zi v]) σ (fun r σ' => r = (nName S w v).2 ∧ zok r ∧ cInv σ' (nName S w v).1 ∧ zfr 0 56 σ σ') := by
  refine zCi_mk (own := RX7) rfl (by decide +kernel) (fun w0 => [some (zr w0 0), some (zi w), some (zi v)]) (fun _ => rfl) (fun _ => Nat.le_of_ble_eq_true rfl) ?_
  intro Γ h hr
  have hI0 := hI
  obtain ⟨la, mu, ⟨hla, hmu, hne⟩, ⟨e7, e8⟩, h3, hP, h5, h6, h7, h8, h9, h10, h11⟩ := hI
  have np10 := hP.2.2.2.2.2.1
  have hpi : 39 ≤ la := by unfold zPl at hla; omega
  unfold zok at hw hv
  have bad : ¬ ((0 ≤ w ∧ w ≤ 1) ∧ (0 ≤ v ∧ v ≤ 10) ∧ ¬ (w = 1 ∧ v = 10)) → nName S w v = (S, -1) := fun z => if_neg z
  have G : (0 ≤ w ∧ w ≤ 1) ∧ (0 ≤ v ∧ v ≤ 10) ∧ ¬ (w = 1 ∧ v = 10) → zV Γ σ 32 [some (zr (zw Γ) 0), some (zi w), some (zi v)] [] := by
    intro hg
    have hb : nName S w v = (if v ≠ 10 ∧ v ∈ nL w S.2.2.2.2.1 S.2.2.2.2.2 then (S, -2) else if 9 ≤ (nL w S.2.2.2.2.1 S.2.2.2.2.2).length then (S, -3) else ((S.1, S.2.1, S.2.2.1, S.2.2.2.1, (if w = 0 then S.2.2.2.2.1 ++ [v] else S.2.2.2.2.1), (if w = 0 then S.2.2.2.2.2 else S.2.2.2.2.2 ++ [v])), ((nL w S.2.2.2.2.1 S.2.2.2.2.2).length : Int) + 1)) := if_pos hg
    have hw2 : w = 0 ∨ w = 1 := by omega
    have gl : ∀ σ1 : zM, (∀ i, σ1 27 i = σ 27 i) → (if w = 0 then σ1 27 2 else σ1 27 3) = ((nL w S.2.2.2.2.1 S.2.2.2.2.2).length : Int) ∧ (nL w S.2.2.2.2.1 S.2.2.2.2.2).length ≤ 9 := by
      intro σ1 hs
      have a1 := h10.1
      have a2 := h10.2.1
      have a3 := h10.2.2.1
      have a4 := h10.2.2.2.1
      rw [hs, hs]
      unfold nL
      split <;> omega
    have K53 : ¬ (v ≠ 10 ∧ v ∈ nL w S.2.2.2.2.1 S.2.2.2.2.2) → zV Γ σ 53 [some (zr (zw Γ) 0), some (zi w), some (zi v)] [] := by
      intro hz
      rw [if_neg hz] at hb
      have g0 := gl σ (fun _ => rfl)
      refine z_raload_n h dX7_name_53 rfl ?_
      refine z_getr h dX7_name_54 fX7_38 L0 rfl ?_
      refine z_iload_n h dX7_name_57 rfl ?_
      refine z_cVi1 h dX7_name_58 lX7_228 vX2_manyIn rfl L27 (c_X2_manyIn σ w hw2) rfl (Nat.le_of_ble_eq_true rfl) (by decide) (fun m σ1 g1 => ?_)
      obtain ⟨rfl, rfl⟩ := g1
      rw [g0.1]
      refine z_bipush h dX7_name_61 (by decide) ?_
      refine z_icmp_lt h dX7_name_63 (by omega) (by omega) (fun b63 => ?_) (fun b63 => ?_)
      · refine z_raload_n h dX7_name_69 rfl ?_
        refine z_getr h dX7_name_70 fX7_38 L0 rfl ?_
        refine z_iload_n h dX7_name_73 rfl ?_
        refine z_iload_n h dX7_name_74 rfl ?_
        refine z_cVv2 h dX7_name_75 lX7_231 vX2_add rfl L27 (c_X2_add σ1 S.2.2.2.2.1 S.2.2.2.2.2 w v hw2 (by omega) h10 (by omega)) rfl (Nat.le_of_ble_eq_true rfl) (by decide) (fun σ2 g2 => ?_)
        refine z_raload_n h dX7_name_78 rfl ?_
        refine z_getr h dX7_name_79 fX7_38 L0 rfl ?_
        refine z_iload_n h dX7_name_82 rfl ?_
        refine z_cVi1 h dX7_name_83 lX7_228 vX2_manyIn rfl L27 (c_X2_manyIn σ2 w hw2) rfl (Nat.le_of_ble_eq_true rfl) (by decide) (fun m2 σ3 g3 => ?_)
        obtain ⟨rfl, rfl⟩ := g3
        rw [if_neg (by omega)] at hb
        have g5 : (if w = 0 then σ3 27 2 else σ3 27 3) = ((nL w S.2.2.2.2.1 S.2.2.2.2.2).length : Int) + 1 := by (have a1 := g2.1.1; have a3 := g2.1.2.2.1; unfold nL; rcases hw2 with rfl | rfl; simp at a1 ⊢; exact a1; simp at a3 ⊢; exact a3)
        rw [g5]
        refine z_irI h hr dX7_name_86 ?_
        rw [hb]
        exact ⟨rfl, by unfold zok; omega, cInv_names hI0 g2.2 _ _ g2.1, zfr_mono g2.2 (by omega) (by omega)⟩
      · refine z_bipush h dX7_name_66 (by decide) ?_
        refine z_irI h hr dX7_name_68 ?_
        rw [if_pos (by omega)] at hb
        rw [hb]
        exact ⟨rfl, by unfold zok; omega, hI0, zfr_rf⟩
    by_cases hz : v ∈ nL w S.2.2.2.2.1 S.2.2.2.2.2
    · refine z_iload_n h dX7_name_32 rfl ?_
      refine z_bipush h dX7_name_33 (by decide) ?_
      refine z_icmp_eq h dX7_name_35 (by omega) (by omega) (fun b35 => ?_) (fun b35 => ?_)
      · exact K53 (by omega)
      · refine z_raload_n h dX7_name_38 rfl ?_
        refine z_getr h dX7_name_39 fX7_38 L0 rfl ?_
        refine z_iload_n h dX7_name_42 rfl ?_
        refine z_iload_n h dX7_name_43 rfl ?_
        refine z_cVi2 h dX7_name_44 lX7_225 vX2_isIn rfl L27 (c_X2_isIn σ S.2.2.2.2.1 S.2.2.2.2.2 w v hw2 hg.2.1 h10) rfl (Nat.le_of_ble_eq_true rfl) (by decide) (fun m σ1 g1 => ?_)
        obtain ⟨rfl, rfl⟩ := g1
        rw [if_pos hz]
        refine z_if_eq h dX7_name_47 (by omega) (fun b47 => by exfalso; omega) (fun b47 => ?_)
        refine z_bipush h dX7_name_50 (by decide) ?_
        refine z_irI h hr dX7_name_52 ?_
        rw [hb, if_pos ⟨by omega, hz⟩]
        exact ⟨rfl, by unfold zok; omega, hI0, zfr_rf⟩
    · refine z_iload_n h dX7_name_32 rfl ?_
      refine z_bipush h dX7_name_33 (by decide) ?_
      refine z_icmp_eq h dX7_name_35 (by omega) (by omega) (fun b35 => ?_) (fun b35 => ?_)
      · exact K53 (fun q => hz q.2)
      · refine z_raload_n h dX7_name_38 rfl ?_
        refine z_getr h dX7_name_39 fX7_38 L0 rfl ?_
        refine z_iload_n h dX7_name_42 rfl ?_
        refine z_iload_n h dX7_name_43 rfl ?_
        refine z_cVi2 h dX7_name_44 lX7_225 vX2_isIn rfl L27 (c_X2_isIn σ S.2.2.2.2.1 S.2.2.2.2.2 w v hw2 hg.2.1 h10) rfl (Nat.le_of_ble_eq_true rfl) (by decide) (fun m σ1 g1 => ?_)
        obtain ⟨rfl, rfl⟩ := g1
        rw [if_neg hz]
        refine z_if_eq h dX7_name_47 (by omega) (fun b47 => ?_) (fun b47 => by exfalso; omega)
        exact K53 (fun q => hz q.2)
  refine z_iload_n h dX7_name_0 rfl ?_
  refine z_if_lt h dX7_name_1 (by omega) (fun b1 => ?_) (fun b1 => ?_)
  · refine z_iconst h dX7_name_30 ?_
    refine z_irI h hr dX7_name_31 ?_
    rw [bad (by omega)]
    exact ⟨rfl, by unfold zok; omega, hI0, zfr_rf⟩
  · refine z_iload_n h dX7_name_4 rfl ?_
    refine z_iconst h dX7_name_5 ?_
    refine z_icmp_gt h dX7_name_6 (by omega) (by omega) (fun b6 => ?_) (fun b6 => ?_)
    · refine z_iconst h dX7_name_30 ?_
      refine z_irI h hr dX7_name_31 ?_
      rw [bad (by omega)]
      exact ⟨rfl, by unfold zok; omega, hI0, zfr_rf⟩
    · refine z_iload_n h dX7_name_9 rfl ?_
      refine z_if_lt h dX7_name_10 (by omega) (fun b10 => ?_) (fun b10 => ?_)
      · refine z_iconst h dX7_name_30 ?_
        refine z_irI h hr dX7_name_31 ?_
        rw [bad (by omega)]
        exact ⟨rfl, by unfold zok; omega, hI0, zfr_rf⟩
      · refine z_iload_n h dX7_name_13 rfl ?_
        refine z_bipush h dX7_name_14 (by decide) ?_
        refine z_icmp_gt h dX7_name_16 (by omega) (by omega) (fun b16 => ?_) (fun b16 => ?_)
        · refine z_iconst h dX7_name_30 ?_
          refine z_irI h hr dX7_name_31 ?_
          rw [bad (by omega)]
          exact ⟨rfl, by unfold zok; omega, hI0, zfr_rf⟩
        · refine z_iload_n h dX7_name_19 rfl ?_
          refine z_iconst h dX7_name_20 ?_
          refine z_icmp_ne h dX7_name_21 (by omega) (by omega) (fun b21 => ?_) (fun b21 => ?_)
          · exact G (by omega)
          · refine z_iload_n h dX7_name_24 rfl ?_
            refine z_bipush h dX7_name_25 (by decide) ?_
            refine z_icmp_ne h dX7_name_27 (by omega) (by omega) (fun b27 => ?_) (fun b27 => ?_)
            · exact G (by omega)
            · refine z_iconst h dX7_name_30 ?_
              refine z_irI h hr dX7_name_31 ?_
              rw [bad (by omega)]
              exact ⟨rfl, by unfold zok; omega, hI0, zfr_rf⟩
theorem c_X7_noNames (σ : zM) (S : zSt) (hI : cInv σ S) : zCi mX7_noNames (fun u => [zr u 0]) σ (fun r σ' => r = (S.2.2.2.2.1.length : Int) + S.2.2.2.2.2.length ∧ zok r ∧ cInv σ' (S.1, S.2.1, S.2.2.1, S.2.2.2.1, [], []) ∧ zfr 0 56 σ σ') := by
  refine zCi_mk (own := RX7) rfl (by decide +kernel) (fun w => [some (zr w 0), none]) (fun _ => rfl) (fun _ => Nat.le_of_ble_eq_true rfl) ?_
  intro Γ h hr
  have hI0 := hI
  obtain ⟨la, mu, ⟨hla, hmu, hne⟩, ⟨e7, e8⟩, h3, hP, h5, h6, h7, h8, h9, h10, h11⟩ := hI
  have np10 := hP.2.2.2.2.2.1
  have hpi : 39 ≤ la := by unfold zPl at hla; omega
  have a1 := h10.1
  have a2 := h10.2.1
  have a3 := h10.2.2.1
  have a4 := h10.2.2.2.1
  refine z_raload_n h dX7_noNames_0 rfl ?_
  refine z_getr h dX7_noNames_1 fX7_38 L0 rfl ?_
  refine y_get 2 h dX7_noNames_4 fX7_235 L27 rfl rfl ?_
  refine z_raload_n h dX7_noNames_7 rfl ?_
  refine z_getr h dX7_noNames_8 fX7_38 L0 rfl ?_
  refine y_get 3 h dX7_noNames_11 fX7_238 L27 rfl rfl ?_
  refine z_iadd h dX7_noNames_14 ?_
  refine z_ist1_n h dX7_noNames_15 (by decide) (zst1_1 rfl) ?_
  refine z_raload_n h dX7_noNames_16 rfl ?_
  refine z_getr h dX7_noNames_17 fX7_38 L0 rfl ?_
  refine z_cVv0 h dX7_noNames_20 lX7_95 vX2_forget rfl L27 (c_X2_forget σ) rfl (Nat.le_of_ble_eq_true rfl) (by decide) (fun σ1 g1 => ?_)
  refine z_iload_n h dX7_noNames_23 rfl ?_
  refine z_irI h hr dX7_noNames_24 ?_
  exact ⟨by rw [a1, a3], by unfold zok; omega, cInv_names hI0 g1.2 _ _ g1.1, zfr_mono g1.2 (by omega) (by omega)⟩
def aFits (S : zSt) (w : Int) : Int := if 0 ≤ w ∧ w ≤ 1 then (if S.2.2.2.2.2.length = 0 ∨ S.2.2.2.2.2.length < S.2.2.2.2.1.length then -2 else if w = 0 then (nCnt (nFit S.2.2.2.2.1 S.2.2.2.2.2) (2 ^ S.2.2.2.2.2.length)).1 else (nCnt (nFit S.2.2.2.2.1 S.2.2.2.2.2) (2 ^ S.2.2.2.2.2.length)).2) else -1
theorem nCnt_rg2 (f : Nat → Bool) : ∀ s, -4 ≤ (nCnt f s).2 ∧ (nCnt f s).2 ≤ s
  | 0 => by simp [nCnt]
  | s + 1 => by
    have := nCnt_rg2 f s
    unfold nCnt
    split
    · simp only; split <;> omega
    · omega
theorem c_X7_fits (σ : zM) (S : zSt) (hI : cInv σ S) (w : Int) (hw : zok w) : zCi mX7_fits (fun u => [zr u 0, zi w]) σ (fun r σ' => r = aFits S w ∧ zok r ∧ cInv σ' S ∧ zfr 0 56 σ σ') := by
  refine zCi_mk (own := RX7) rfl (by decide +kernel) (fun w0 => [some (zr w0 0), some (zi w)]) (fun _ => rfl) (fun _ => Nat.le_of_ble_eq_true rfl) ?_
  intro Γ h hr
  have hI0 := hI
  obtain ⟨la, mu, ⟨hla, hmu, hne⟩, ⟨e7, e8⟩, h3, hP, h5, h6, h7, h8, h9, h10, h11⟩ := hI
  have np10 := hP.2.2.2.2.2.1
  have hpi : 39 ≤ la := by unfold zPl at hla; omega
  unfold zok at hw
  have a1 := h10.1
  have a2 := h10.2.1
  have a3 := h10.2.2.1
  have a4 := h10.2.2.2.1
  have a5 : 2 ^ S.2.2.2.2.2.length ≤ 2 ^ 9 := Nat.pow_le_pow_right (by decide) a4
  refine z_iload_n h dX7_fits_0 rfl ?_
  refine z_if_lt h dX7_fits_1 (by omega) (fun b1 => ?_) (fun b1 => ?_)
  · refine z_iconst h dX7_fits_9 ?_
    refine z_irI h hr dX7_fits_10 ?_
    exact ⟨by unfold aFits; rw [if_neg (by omega)], by unfold zok; omega, hI0, zfr_rf⟩
  · refine z_iload_n h dX7_fits_4 rfl ?_
    refine z_iconst h dX7_fits_5 ?_
    refine z_icmp_le h dX7_fits_6 (by omega) (by omega) (fun b6 => ?_) (fun b6 => ?_)
    · refine z_raload_n h dX7_fits_11 rfl ?_
      refine z_getr h dX7_fits_12 fX7_38 L0 rfl ?_
      refine y_get 3 h dX7_fits_15 fX7_238 L27 rfl rfl ?_
      refine z_if_eq h dX7_fits_18 (by omega) (fun b18 => ?_) (fun b18 => ?_)
      · refine z_bipush h dX7_fits_38 (by decide) ?_
        refine z_irI h hr dX7_fits_40 ?_
        exact ⟨by unfold aFits; rw [if_pos (by omega), if_pos (by omega)], by unfold zok; omega, hI0, zfr_rf⟩
      · refine z_raload_n h dX7_fits_21 rfl ?_
        refine z_getr h dX7_fits_22 fX7_38 L0 rfl ?_
        refine y_get 2 h dX7_fits_25 fX7_235 L27 rfl rfl ?_
        refine z_raload_n h dX7_fits_28 rfl ?_
        refine z_getr h dX7_fits_29 fX7_38 L0 rfl ?_
        refine y_get 3 h dX7_fits_32 fX7_238 L27 rfl rfl ?_
        refine z_icmp_le h dX7_fits_35 (by omega) (by omega) (fun b35 => ?_) (fun b35 => ?_)
        · refine z_raload_n h dX7_fits_41 rfl ?_
          refine z_getr h dX7_fits_42 fX7_38 L0 rfl ?_
          refine z_cVv0 h dX7_fits_45 lX7_241 vX2_findTurns rfl L27 (c_X2_findTurns σ S.2.2.2.2.1 S.2.2.2.2.2 h10 (by omega)) rfl (Nat.le_of_ble_eq_true rfl) (by decide) (fun σ1 g1 => ?_)
          have r1 := nCnt_rg (nFit S.2.2.2.2.1 S.2.2.2.2.2) (2 ^ S.2.2.2.2.2.length)
          have r2 := nCnt_rg2 (nFit S.2.2.2.2.1 S.2.2.2.2.2) (2 ^ S.2.2.2.2.2.length)
          have g2 : cInv σ1 S := cInv_names hI0 (zfr_mono g1.2.1 (by omega) (by omega)) _ _ g1.1
          refine z_iload_n h dX7_fits_48 rfl ?_
          refine z_if_ne h dX7_fits_49 (by omega) (fun b49 => ?_) (fun b49 => ?_)
          · refine z_raload_n h dX7_fits_62 rfl ?_
            refine z_getr h dX7_fits_63 fX7_38 L0 rfl ?_
            refine y_get 5 h dX7_fits_66 fX7_247 L27 rfl rfl ?_
            refine z_irI h hr dX7_fits_69 ?_
            refine ⟨?_, by unfold zok; omega, g2, zfr_mono g1.2.1 (by omega) (by omega)⟩
            unfold aFits
            rw [if_pos (by omega), if_neg (by omega)]
            first
              | (rw [if_pos (by omega)]; exact g1.2.2.1)
              | (rw [if_neg (by omega)]; exact g1.2.2.2)
          · refine z_raload_n h dX7_fits_52 rfl ?_
            refine z_getr h dX7_fits_53 fX7_38 L0 rfl ?_
            refine y_get 4 h dX7_fits_56 fX7_244 L27 rfl rfl ?_
            refine z_goto h dX7_fits_59 ?_
            refine z_irI h hr dX7_fits_69 ?_
            refine ⟨?_, by unfold zok; omega, g2, zfr_mono g1.2.1 (by omega) (by omega)⟩
            unfold aFits
            rw [if_pos (by omega), if_neg (by omega)]
            first
              | (rw [if_pos (by omega)]; exact g1.2.2.1)
              | (rw [if_neg (by omega)]; exact g1.2.2.2)
        · refine z_bipush h dX7_fits_38 (by decide) ?_
          refine z_irI h hr dX7_fits_40 ?_
          exact ⟨by unfold aFits; rw [if_pos (by omega), if_pos (by omega)], by unfold zok; omega, hI0, zfr_rf⟩
    · refine z_iconst h dX7_fits_9 ?_
      refine z_irI h hr dX7_fits_10 ?_
      exact ⟨by unfold aFits; rw [if_neg (by omega)], by unfold zok; omega, hI0, zfr_rf⟩
