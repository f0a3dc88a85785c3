def md0 (P : zP) : zMd := (pL P, 0, [], -1)
def aPlace (S : zSt) (i t : Int) : Int := if (0 ≤ i ∧ i < S.2.1.1.length) ∧ 0 ≤ t ∧ t < 200 then zPlace i 0 (sRun S.2.1 (md0 S.2.1) (t.toNat + 1)).1 else -1
theorem zPlace_rg (i : Int) : ∀ (l : List Int) (k : Nat), -4 ≤ zPlace i k l ∧ zPlace i k l ≤ k + l.length
  | [], k => by simp [zPlace]
  | x :: t, k => by
    have := zPlace_rg i t (k + 1)
    unfold zPlace
    rw [List.length_cons]
    split <;> omega
theorem c_X7_place (σ : zM) (S : zSt) (hI : cInv σ S) (i t : Int) (hi : zok i) (ht : zok t) : zCi mX7_place (fun u => [zr u 0, zi i, zi t]) σ (fun r σ' => r = aPlace S i t ∧ zok r ∧ cInv σ' S ∧ zfr 0 56 σ σ') := by
  refine zCi_mk (own := RX7) rfl (by decide +kernel) (fun w => [some (zr w 0), some (zi i), some (zi t)]) (fun _ => rfl) (fun _ => Nat.le_of_ble_eq_true rfl) ?_
  intro Γ h hr
  have hI0 := hI
  obtain ⟨la, mu, ⟨hla, hmu, hne⟩, ⟨e7, e8⟩, h3, hP, h5, h6, h7, h8, h9, h10, h11⟩ := hI
  have np10 := hP.2.2.2.2.2.1
  have hpi : 39 ≤ la := by unfold zPl at hla; omega
  have fin : ∀ σ' r, r = aPlace S i t → zok r → zfr 4 26 σ σ' → r = aPlace S i t ∧ zok r ∧ cInv σ' S ∧ zfr 0 56 σ σ' := fun σ' r a b c => ⟨a, b, cInv_fr hI0 c, zfr_mono c (by omega) (by omega)⟩
  have bad : ¬ ((0 ≤ i ∧ i < S.2.1.1.length) ∧ 0 ≤ t ∧ t < 200) → aPlace S i t = -1 := fun z => if_neg z
  have good : (0 ≤ i ∧ i < S.2.1.1.length) ∧ 0 ≤ t ∧ t < 200 → zV Γ σ 17 [some (zr (zw Γ) 0), some (zi i), some (zi t)] [] := by
    intro hg
    obtain ⟨tn, rfl⟩ := Int.eq_ofNat_of_zero_le hg.2.1
    refine z_raload_n h dX7_place_17 rfl ?_
    refine z_getr h dX7_place_18 fX7_27 L0 rfl ?_
    refine z_raload_n h dX7_place_21 rfl ?_
    refine y_getd 7 h dX7_place_22 fX7_56 L0 rfl rfl e7 ?_
    refine z_cVv1 h dX7_place_25 lX7_126 vX1_asTold rfl L5 (c_X1_asTold σ la hla) rfl (Nat.le_of_ble_eq_true rfl) (by decide) (fun σ1 g1 => ?_)
    have g2 := md_as hP g1.2
    refine z_raload_n h dX7_place_28 rfl ?_
    refine z_getr h dX7_place_29 fX7_27 L0 rfl ?_
    refine z_iload_n h dX7_place_32 rfl ?_
    refine z_cVv1 h dX7_place_33 lX7_130 vX1_runTo rfl L5 (c_X1_runTo σ1 la hla g1.2.1.1 S.2.1 (cPlan_fr hP (fun c a b i => g1.1 c (by omega) (by omega) (by omega) i)) _ g2 tn (by omega)) rfl (Nat.le_of_ble_eq_true rfl) (by decide) (fun σ2 g4 => ?_)
    refine z_raload_n h dX7_place_36 rfl ?_
    refine z_getr h dX7_place_37 fX7_27 L0 rfl ?_
    refine z_iload_n h dX7_place_40 rfl ?_
    refine z_cVi1 h dX7_place_41 lX7_134 vX1_placeOf rfl L5 (c_X1_placeOf σ2 _ _ np10 i (by omega) g4.2.1) rfl (Nat.le_of_ble_eq_true rfl) (by decide) (fun v σ3 g5 => ?_)
    obtain ⟨rfl, rfl⟩ := g5
    refine z_irI h hr dX7_place_44 ?_
    refine fin _ _ ?_ ?_ (fun c hc i => (g4.1.1 c (by omega) i).trans (g1.1 c (by omega) (by omega) (by omega) i))
    · unfold aPlace; rw [if_pos hg, Int.toNat_natCast]; rfl
    · have r1 := zPlace_rg i (sRun S.2.1 (pL S.2.1, 0, [], -1) (tn + 1)).1 0
      have r2 := g4.2.1.2.1
      unfold zok; omega
  refine z_raload_n h dX7_place_0 rfl ?_
  refine z_iload_n h dX7_place_1 rfl ?_
  refine z_cVi1 h dX7_place_2 lX7_98 vX7_isPerson rfl L0 (c_X7_isPerson σ la hla e7 S.2.1 hP i hi) rfl (Nat.le_of_ble_eq_true rfl) (by decide) (fun v σ1 g1 => ?_)
  obtain ⟨rfl, rfl⟩ := g1
  refine z_if_eq h dX7_place_5 (by split <;> omega) (fun b5 => ?_) (fun b5 => ?_)
  · refine z_iconst h dX7_place_15 ?_
    refine z_irI h hr dX7_place_16 ?_
    refine fin _ _ (bad ?_).symm (by unfold zok; omega) zfr_rf
    rintro ⟨z1, z2⟩
    first | (rw [if_pos z1] at b5; omega) | (rw [if_pos z2] at b12; omega)
  · refine z_iload_n h dX7_place_8 rfl ?_
    refine z_cSi1 h dX7_place_9 lX7_123 vX7_isMinute (c_X7_isMinute σ1 t ht) rfl (Nat.le_of_ble_eq_true rfl) (by decide) (fun v2 σ2 g2 => ?_)
    obtain ⟨rfl, rfl⟩ := g2
    refine z_if_ne h dX7_place_12 (by split <;> omega) (fun b12 => ?_) (fun b12 => ?_)
    · refine good ⟨?_, ?_⟩
      · by_cases z : 0 ≤ i ∧ i < (S.2.1.1.length : Int)
        · exact z
        · rw [if_neg z] at b5; omega
      · by_cases z : 0 ≤ t ∧ t < 200
        · exact z
        · rw [if_neg z] at b12; omega
    · refine z_iconst h dX7_place_15 ?_
      refine z_irI h hr dX7_place_16 ?_
      refine fin _ _ (bad ?_).symm (by unfold zok; omega) zfr_rf
      rintro ⟨z1, z2⟩
      first | (rw [if_pos z1] at b5; omega) | (rw [if_pos z2] at b12; omega)
def aRow (S : zSt) (t : Int) : Int := if 0 ≤ t ∧ t < 200 then ((sRun S.2.1 (md0 S.2.1) (t.toNat + 1)).1.length : Int) else -1
theorem c_X7_row (σ : zM) (S : zSt) (hI : cInv σ S) (t : Int) (ht : zok t) : zCi mX7_row (fun u => [zr u 0, zi t]) σ (fun r σ' => r = aRow S t ∧ zok r ∧ cInv σ' S ∧ zfr 0 56 σ σ') := by
  refine zCi_mk (own := RX7) rfl (by decide +kernel) (fun w => [some (zr w 0), some (zi t)]) (fun _ => rfl) (fun _ => Nat.le_of_ble_eq_true rfl) ?_
  intro Γ h hr
  have hI0 := hI
  obtain ⟨la, mu, ⟨hla, hmu, hne⟩, ⟨e7, e8⟩, h3, hP, h5, h6, h7, h8, h9, h10, h11⟩ := hI
  have np10 := hP.2.2.2.2.2.1
  have hpi : 39 ≤ la := by unfold zPl at hla; omega
  have fin : ∀ σ' r, r = aRow S t → zok r → zfr 4 26 σ σ' → r = aRow S t ∧ zok r ∧ cInv σ' S ∧ zfr 0 56 σ σ' := fun σ' r a b c => ⟨a, b, cInv_fr hI0 c, zfr_mono c (by omega) (by omega)⟩
  by_cases hg : 0 ≤ t ∧ t < 200
  · obtain ⟨tn, rfl⟩ := Int.eq_ofNat_of_zero_le hg.1
    refine z_iload_n h dX7_row_0 rfl ?_
    refine z_cSi1 h dX7_row_1 lX7_123 vX7_isMinute (c_X7_isMinute σ _ ht) rfl (Nat.le_of_ble_eq_true rfl) (by decide) (fun v2 σ9 g9 => ?_)
    obtain ⟨g9a, g9b⟩ := g9
    rw [if_pos hg] at g9a
    subst g9a
    subst g9b
    refine z_if_ne h dX7_row_4 (by omega) (fun b4 => ?_) (fun b4 => by exfalso; omega)
    refine z_raload_n h dX7_row_9 rfl ?_
    refine z_getr h dX7_row_10 fX7_27 L0 rfl ?_
    refine z_raload_n h dX7_row_13 rfl ?_
    refine y_getd 7 h dX7_row_14 fX7_56 L0 rfl rfl e7 ?_
    refine z_cVv1 h dX7_row_17 lX7_126 vX1_asTold rfl L5 (c_X1_asTold σ9 la hla) rfl (Nat.le_of_ble_eq_true rfl) (by decide) (fun σ1 g1 => ?_)
    have g2 := md_as hP g1.2
    refine z_raload_n h dX7_row_20 rfl ?_
    refine z_getr h dX7_row_21 fX7_27 L0 rfl ?_
    refine z_iload_n h dX7_row_24 rfl ?_
    refine z_cVv1 h dX7_row_25 lX7_130 vX1_runTo rfl L5 (c_X1_runTo σ1 la hla g1.2.1.1 S.2.1 (cPlan_fr hP (fun c a b i => g1.1 c (by omega) (by omega) (by omega) i)) _ g2 tn (by omega)) rfl (Nat.le_of_ble_eq_true rfl) (by decide) (fun σ2 g4 => ?_)
    refine z_raload_n h dX7_row_28 rfl ?_
    refine z_getr h dX7_row_29 fX7_27 L0 rfl ?_
    refine y_get 10 h dX7_row_32 fX7_138 L5 rfl rfl ?_
    refine z_irI h hr dX7_row_35 ?_
    have r2 := g4.2.1.2.1
    have r1 := g4.2.1.1
    refine fin _ _ ?_ (by unfold zok; omega) (fun c hc i => (g4.1.1 c (by omega) i).trans (g1.1 c (by omega) (by omega) (by omega) i))
    unfold aRow; rw [if_pos hg, Int.toNat_natCast]; exact r1
  · refine z_iload_n h dX7_row_0 rfl ?_
    refine z_cSi1 h dX7_row_1 lX7_123 vX7_isMinute (c_X7_isMinute σ _ ht) rfl (Nat.le_of_ble_eq_true rfl) (by decide) (fun v2 σ9 g9 => ?_)
    obtain ⟨rfl, rfl⟩ := g9
    rw [if_neg hg]
    refine z_if_ne h dX7_row_4 (by omega) (fun b4 => by exfalso; omega) (fun b4 => ?_)
    refine z_iconst h dX7_row_7 ?_
    refine z_irI h hr dX7_row_8 ?_
    exact fin _ _ (if_neg hg).symm (by unfold zok; omega) zfr_rf
def aAll (S : zSt) (w : Int) : Int := if 0 ≤ w ∧ w ≤ 3 then zMany (zFn S.2.1 (pL S.2.1) 0 []).2.1 w S.2.1.1.length else if w = 4 then (zFn S.2.1 (pL S.2.1) 0 []).2.2.2.1 else if w = 5 then zU S.2.1 (pL S.2.1) else -1
theorem sTurns_rg (P : zP) (md : zMd) : ∀ n : Nat, 0 ≤ (sRun P md n).2.2.2.1 ∧ (sRun P md n).2.2.2.1 ≤ n
  | 0 => by simp [sRun, sInit]
  | n + 1 => by
    have ih := sTurns_rg P md n
    have h1 : (sStep P md n (sRun P md n)).2.2.2.1 = (sTurn P md n (sAway P n (sRun P md n))).2.2.2.1 := by
      unfold sStep
      have a : ∀ s : zS, (sHome n s).2.2.2.1 = s.2.2.2.1 := by intro s; unfold sHome; split <;> rfl
      have b : ∀ s : zS, (sServe P n s).2.2.2.1 = s.2.2.2.1 := by intro s; unfold sServe; split <;> rfl
      rw [a, b]
      rfl
    have h2 : (sTurn P md n (sAway P n (sRun P md n))).2.2.2.1 = (sRun P md n).2.2.2.1 ∨ (sTurn P md n (sAway P n (sRun P md n))).2.2.2.1 = (sRun P md n).2.2.2.1 + 1 := by
      unfold sTurn
      split
      · exact Or.inr rfl
      · exact Or.inl rfl
    show 0 ≤ (sStep P md n (sRun P md n)).2.2.2.1 ∧ _
    have e : (sRun P md (n + 1)).2.2.2.1 = (sStep P md n (sRun P md n)).2.2.2.1 := rfl
    rw [e, h1]
    omega
theorem c_X7_all (σ : zM) (S : zSt) (hI : cInv σ S) (w : Int) (hw : zok w) : zCi mX7_all (fun u => [zr u 0, zi w]) σ (fun r σ' => r = aAll S w ∧ zok r ∧ cInv σ' S ∧ zfr 0 56 σ σ') := by
  refine zCi_mk (own := RX7) rfl (by decide +kernel) (fun w0 => [some (zr w0 0), some (zi w)]) (fun _ => rfl) (fun _ => Nat.le_of_ble_eq_true rfl) ?_
  intro Γ h hr
  have hI0 := hI
  obtain ⟨la, mu, ⟨hla, hmu, hne⟩, ⟨e7, e8⟩, h3, hP, h5, h6, h7, h8, h9, h10, h11⟩ := hI
  have np10 := hP.2.2.2.2.2.1
  have hpi : 39 ≤ la := by unfold zPl at hla; omega
  have fin : ∀ σ' r, r = aAll S w → zok r → zfr 4 26 σ σ' → r = aAll S w ∧ zok r ∧ cInv σ' S ∧ zfr 0 56 σ σ' := fun σ' r a b c => ⟨a, b, cInv_fr hI0 c, zfr_mono c (by omega) (by omega)⟩
  unfold zok at hw
  refine z_iload_n h dX7_all_0 rfl ?_
  refine z_if_lt h dX7_all_1 (by omega) (fun b1 => ?_) (fun b1 => ?_)
  · refine z_iconst h dX7_all_9 ?_
    refine z_irI h hr dX7_all_10 ?_
    refine fin _ _ ?_ (by unfold zok; omega) zfr_rf
    unfold aAll
    rw [if_neg (by omega), if_neg (by omega), if_neg (by omega)]
  · refine z_iload_n h dX7_all_4 rfl ?_
    refine z_iconst h dX7_all_5 ?_
    refine z_icmp_le h dX7_all_6 (by omega) (by omega) (fun b6 => ?_) (fun b6 => ?_)
    · refine z_raload_n h dX7_all_11 rfl ?_
      refine z_cVv0 h dX7_all_12 lX7_112 vX7_runAsTold rfl L0 (c_X7_runAsTold σ la hla e7 S.2.1 hP) rfl (Nat.le_of_ble_eq_true rfl) (by decide) (fun σ2 g1 => ?_)
      have g2 : zfr 4 26 σ σ2 := zfr_mono g1.1 (by omega) (by omega)
      have hP2 := cPlan_fr hP (σ' := σ2) (fun c a b i => g1.1 c (by omega) i)
      refine z_iload_n h dX7_all_15 rfl ?_
      refine z_iconst h dX7_all_16 ?_
      refine z_icmp_ne h dX7_all_17 (by omega) (by omega) (fun b17 => ?_) (fun b17 => ?_)
      · refine z_iload_n h dX7_all_28 rfl ?_
        refine z_iconst h dX7_all_29 ?_
        refine z_icmp_ne h dX7_all_30 (by omega) (by omega) (fun b30 => ?_) (fun b30 => ?_)
        · refine z_raload_n h dX7_all_43 rfl ?_
          refine z_getr h dX7_all_44 fX7_27 L0 rfl ?_
          refine z_iload_n h dX7_all_47 rfl ?_
          refine z_cVi1 h dX7_all_48 lX7_146 vX1_manyOf rfl L5 (c_X1_manyOf σ2 la hla g1.2.1 S.2.1 hP2 _ _ g1.2.2.2.1 w (by omega)) rfl (Nat.le_of_ble_eq_true rfl) (by decide) (fun v σ3 g3 => ?_)
          obtain ⟨rfl, rfl⟩ := g3
          refine z_irI h hr dX7_all_51 ?_
          refine fin _ _ ?_ ?_ g2
          · unfold aAll
            first
              | (rw [if_pos (by omega)]; done)
              | (rw [if_neg (by omega), if_neg (by omega), if_pos (by omega)]; rfl)
          · have r1 := uC_rg S.2.1 np10 (zFn S.2.1 (pL S.2.1) 0 []).2.1 (zFn S.2.1 (pL S.2.1) 0 []).2.2.1
            have r2 := zMany_rg (zFn S.2.1 (pL S.2.1) 0 []).2.1 w S.2.1.1.length
            unfold zok; omega
        · refine z_raload_n h dX7_all_33 rfl ?_
          refine z_getr h dX7_all_34 fX7_27 L0 rfl ?_
          refine z_cVi0 h dX7_all_37 lX7_142 vX1_unfair rfl L5 (c_X1_unfair σ2 la hla g1.2.1 S.2.1 hP2 _ _ g1.2.2.2.1) rfl (Nat.le_of_ble_eq_true rfl) (by decide) (fun v σ3 g3 => ?_)
          obtain ⟨rfl, rfl⟩ := g3
          refine z_goto h dX7_all_40 ?_
          refine z_irI h hr dX7_all_51 ?_
          refine fin _ _ ?_ ?_ g2
          · unfold aAll
            first
              | (rw [if_pos (by omega)]; done)
              | (rw [if_neg (by omega), if_neg (by omega), if_pos (by omega)]; rfl)
          · have r1 := uC_rg S.2.1 np10 (zFn S.2.1 (pL S.2.1) 0 []).2.1 (zFn S.2.1 (pL S.2.1) 0 []).2.2.1
            have r2 := zMany_rg (zFn S.2.1 (pL S.2.1) 0 []).2.1 w S.2.1.1.length
            unfold zok; omega
      · refine z_raload_n h dX7_all_20 rfl ?_
        refine z_getr h dX7_all_21 fX7_27 L0 rfl ?_
        refine y_get 14 h dX7_all_24 fX7_139 L5 rfl rfl ?_
        refine z_irI h hr dX7_all_27 ?_
        have r := sTurns_rg S.2.1 (pL S.2.1, 0, [], -1) 200
        have r2 : σ2 5 14 = (sRun S.2.1 (pL S.2.1, 0, [], -1) 200).2.2.2.1 := g1.2.2.2.2
        refine fin _ _ ?_ (by unfold zok; omega) g2
        unfold aAll
        rw [if_neg (by omega), if_pos (by omega)]
        exact r2
    · refine z_iconst h dX7_all_9 ?_
      refine z_irI h hr dX7_all_10 ?_
      refine fin _ _ ?_ (by unfold zok; omega) zfr_rf
      unfold aAll
      rw [if_neg (by omega), if_neg (by omega), if_neg (by omega)]
def aCry (S : zSt) (c w : Int) : Int := if 0 ≤ c ∧ c < S.2.1.2.1.length then (if w = 0 then zWho S.2.1 c.toNat else if w = 1 then (S.2.1.2.1.getD c.toNat (0, 0)).2 else if w = 2 then zGn S.2.1 c.toNat else -1) else -1
theorem c_X7_cry (σ : zM) (S : zSt) (hI : cInv σ S) (c w : Int) (hc : zok c) (hw : zok w) : zCi mX7_cry (fun u => [zr u 0, zi c, zi w]) σ (fun r σ' => r = aCry S c w ∧ zok r ∧ cInv σ' S ∧ zfr 0 56 σ σ') := by
  refine zCi_mk (own := RX7) rfl (by decide +kernel) (fun w0 => [some (zr w0 0), some (zi c), some (zi w)]) (fun _ => rfl) (fun _ => Nat.le_of_ble_eq_true rfl) ?_
  intro Γ h hr
  have hI0 := hI
  obtain ⟨la, mu, ⟨hla, hmu, hne⟩, ⟨e7, e8⟩, h3, hP, h5, h6, h7, h8, h9, h10, h11⟩ := hI
  have np10 := hP.2.2.2.2.2.1
  have hpi : 39 ≤ la := by unfold zPl at hla; omega
  have fin : ∀ σ' r, r = aCry S c w → zok r → zfr 4 26 σ σ' → r = aCry S c w ∧ zok r ∧ cInv σ' S ∧ zfr 0 56 σ σ' := fun σ' r a b c => ⟨a, b, cInv_fr hI0 c, zfr_mono c (by omega) (by omega)⟩
  unfold zok at hw hc
  have q1 := hP.2.2.2.1.1
  have q2 := hP.2.2.2.1.2.1
  by_cases hin : 0 ≤ c ∧ c < S.2.1.2.1.length
  · obtain ⟨cn, rfl⟩ := Int.eq_ofNat_of_zero_le hin.1
    have hlt : cn < S.2.1.2.1.length := by omega
    have ha : aCry S cn w = (if w = 0 then zWho S.2.1 cn else if w = 1 then (S.2.1.2.1.getD cn (0, 0)).2 else if w = 2 then zGn S.2.1 cn else -1) := if_pos hin
    have g1 := zWho_at hP hlt
    have g2 : σ (la + 5 + 2) cn = (S.2.1.2.1.getD cn (0, 0)).2 ∧ 0 ≤ (S.2.1.2.1.getD cn (0, 0)).2 ∧ (S.2.1.2.1.getD cn (0, 0)).2 < 100 := by
      have hx := List.getElem?_eq_getElem hlt
      rw [List.getD_eq_getElem?_getD, hx]
      exact (hP.2.2.2.1.2.2.1 cn _ hx).2
    by_cases e0 : w = 0
    · refine z_iload_n h dX7_cry_0 rfl ?_
      refine z_if_lt h dX7_cry_1 (by omega) (fun b1 => by exfalso; omega) (fun b1 => ?_)
      refine z_iload_n h dX7_cry_4 rfl ?_
      refine z_raload_n h dX7_cry_5 rfl ?_
      refine y_getd 7 h dX7_cry_6 fX7_56 L0 rfl rfl e7 ?_
      refine z_getr h dX7_cry_9 fX7_71 (zPl_o hla) rfl ?_
      refine y_get 3 h dX7_cry_12 fX7_75 (zCy_o (zPl_c hla)) rfl rfl ?_
      refine z_icmp_lt h dX7_cry_15 (by omega) (by omega) (fun b15 => ?_) (fun b15 => by exfalso; omega)
      refine z_iload_n h dX7_cry_20 rfl ?_
      refine z_tabIn (t := 48) h (0) dX7_cry_21 (e0) (by decide) (by rfl) (by decide) ?_
      refine z_raload_n h dX7_cry_48 rfl ?_
      refine y_getd 7 h dX7_cry_49 fX7_56 L0 rfl rfl e7 ?_
      refine z_getr h dX7_cry_52 fX7_71 (zPl_o hla) rfl ?_
      refine z_getr h dX7_cry_55 fX7_149 (zCy_o (zPl_c hla)) rfl ?_
      refine z_iload_n h dX7_cry_58 rfl ?_
      refine z_iald h dX7_cry_59 (zCy_1 (zPl_c hla)) (by decide) (by omega) ?_
      refine z_irI h hr dX7_cry_60 ?_
      exact fin _ _ (by rw [ha, if_pos e0]; exact g1.1) (by unfold zok; rw [g1.1]; omega) zfr_rf
    by_cases e1 : w = 1
    · refine z_iload_n h dX7_cry_0 rfl ?_
      refine z_if_lt h dX7_cry_1 (by omega) (fun b1 => by exfalso; omega) (fun b1 => ?_)
      refine z_iload_n h dX7_cry_4 rfl ?_
      refine z_raload_n h dX7_cry_5 rfl ?_
      refine y_getd 7 h dX7_cry_6 fX7_56 L0 rfl rfl e7 ?_
      refine z_getr h dX7_cry_9 fX7_71 (zPl_o hla) rfl ?_
      refine y_get 3 h dX7_cry_12 fX7_75 (zCy_o (zPl_c hla)) rfl rfl ?_
      refine z_icmp_lt h dX7_cry_15 (by omega) (by omega) (fun b15 => ?_) (fun b15 => by exfalso; omega)
      refine z_iload_n h dX7_cry_20 rfl ?_
      refine z_tabIn (t := 61) h (1) dX7_cry_21 (e1) (by decide) (by rfl) (by decide) ?_
      refine z_raload_n h dX7_cry_61 rfl ?_
      refine y_getd 7 h dX7_cry_62 fX7_56 L0 rfl rfl e7 ?_
      refine z_getr h dX7_cry_65 fX7_71 (zPl_o hla) rfl ?_
      refine z_getr h dX7_cry_68 fX7_152 (zCy_o (zPl_c hla)) rfl ?_
      refine z_iload_n h dX7_cry_71 rfl ?_
      refine z_iald h dX7_cry_72 (zCy_2 (zPl_c hla)) (by decide) (by omega) ?_
      refine z_irI h hr dX7_cry_73 ?_
      exact fin _ _ (by rw [ha, if_neg e0, if_pos e1]; exact g2.1) (by unfold zok; rw [g2.1]; omega) zfr_rf
    by_cases e2 : w = 2
    · refine z_iload_n h dX7_cry_0 rfl ?_
      refine z_if_lt h dX7_cry_1 (by omega) (fun b1 => by exfalso; omega) (fun b1 => ?_)
      refine z_iload_n h dX7_cry_4 rfl ?_
      refine z_raload_n h dX7_cry_5 rfl ?_
      refine y_getd 7 h dX7_cry_6 fX7_56 L0 rfl rfl e7 ?_
      refine z_getr h dX7_cry_9 fX7_71 (zPl_o hla) rfl ?_
      refine y_get 3 h dX7_cry_12 fX7_75 (zCy_o (zPl_c hla)) rfl rfl ?_
      refine z_icmp_lt h dX7_cry_15 (by omega) (by omega) (fun b15 => ?_) (fun b15 => by exfalso; omega)
      refine z_iload_n h dX7_cry_20 rfl ?_
      refine z_tabIn (t := 74) h (2) dX7_cry_21 (e2) (by decide) (by rfl) (by decide) ?_
      refine z_raload_n h dX7_cry_74 rfl ?_
      refine z_getr h dX7_cry_75 fX7_19 L0 rfl ?_
      refine z_raload_n h dX7_cry_78 rfl ?_
      refine y_getd 7 h dX7_cry_79 fX7_56 L0 rfl rfl e7 ?_
      refine z_iload_n h dX7_cry_82 rfl ?_
      refine z_cVi2 h dX7_cry_83 lX7_155 vX5_gainedBy rfl L4 (c_X5_gainedBy σ la hla S.2.1 hP cn hlt) rfl (Nat.le_of_ble_eq_true rfl) (by decide) (fun v σ1 g3 => ?_)
      refine z_irI h hr dX7_cry_86 ?_
      exact fin _ _ (by rw [ha, if_neg e0, if_neg e1, if_pos e2]; exact g3.1) (by unfold zok; omega) (zfr_mono g3.2.2 (by omega) (by omega))
    · refine z_iload_n h dX7_cry_0 rfl ?_
      refine z_if_lt h dX7_cry_1 (by omega) (fun b1 => by exfalso; omega) (fun b1 => ?_)
      refine z_iload_n h dX7_cry_4 rfl ?_
      refine z_raload_n h dX7_cry_5 rfl ?_
      refine y_getd 7 h dX7_cry_6 fX7_56 L0 rfl rfl e7 ?_
      refine z_getr h dX7_cry_9 fX7_71 (zPl_o hla) rfl ?_
      refine y_get 3 h dX7_cry_12 fX7_75 (zCy_o (zPl_c hla)) rfl rfl ?_
      refine z_icmp_lt h dX7_cry_15 (by omega) (by omega) (fun b15 => ?_) (fun b15 => by exfalso; omega)
      refine z_iload_n h dX7_cry_20 rfl ?_
      refine z_tabOut (t := 87) h dX7_cry_21 (by omega) (by omega) (by decide) ?_
      refine z_iconst h dX7_cry_87 ?_
      refine z_irI h hr dX7_cry_88 ?_
      exact fin _ _ (by rw [ha, if_neg e0, if_neg e1, if_neg e2]) (by unfold zok; omega) zfr_rf
  · have ha : aCry S c w = -1 := if_neg hin
    refine z_iload_n h dX7_cry_0 rfl ?_
    refine z_if_lt h dX7_cry_1 (by omega) (fun b1 => ?_) (fun b1 => ?_)
    · refine z_iconst h dX7_cry_18 ?_
      refine z_irI h hr dX7_cry_19 ?_
      exact fin _ _ ha.symm (by unfold zok; omega) zfr_rf
    · refine z_iload_n h dX7_cry_4 rfl ?_
      refine z_raload_n h dX7_cry_5 rfl ?_
      refine y_getd 7 h dX7_cry_6 fX7_56 L0 rfl rfl e7 ?_
      refine z_getr h dX7_cry_9 fX7_71 (zPl_o hla) rfl ?_
      refine y_get 3 h dX7_cry_12 fX7_75 (zCy_o (zPl_c hla)) rfl rfl ?_
      refine z_icmp_lt h dX7_cry_15 (by omega) (by omega) (fun b15 => by exfalso; omega) (fun b15 => ?_)
      refine z_iconst h dX7_cry_18 ?_
      refine z_irI h hr dX7_cry_19 ?_
      exact fin _ _ ha.symm (by unfold zok; omega) zfr_rf
theorem c_X7_suspect (σ : zM) (S : zSt) (hI : cInv σ S) : zCi mX7_suspect (fun u => [zr u 0]) σ (fun r σ' => r = (zMs S.2.1 S.2.1.2.1.length).1 ∧ zok r ∧ cInv σ' S ∧ zfr 0 56 σ σ') := by
  refine zCi_mk (own := RX7) rfl (by decide +kernel) (fun w => [some (zr w 0)]) (fun _ => rfl) (fun _ => Nat.le_of_ble_eq_true rfl) ?_
  intro Γ h hr
  have hI0 := hI
  obtain ⟨la, mu, ⟨hla, hmu, hne⟩, ⟨e7, e8⟩, h3, hP, h5, h6, h7, h8, h9, h10, h11⟩ := hI
  have np10 := hP.2.2.2.2.2.1
  have hpi : 39 ≤ la := by unfold zPl at hla; omega
  have fin : ∀ σ' r, r = (zMs S.2.1 S.2.1.2.1.length).1 → zok r → zfr 4 26 σ σ' → r = (zMs S.2.1 S.2.1.2.1.length).1 ∧ zok r ∧ cInv σ' S ∧ zfr 0 56 σ σ' := fun σ' r a b c => ⟨a, b, cInv_fr hI0 c, zfr_mono c (by omega) (by omega)⟩
  refine z_raload_n h dX7_suspect_0 rfl ?_
  refine z_getr h dX7_suspect_1 fX7_19 L0 rfl ?_
  refine z_raload_n h dX7_suspect_4 rfl ?_
  refine y_getd 7 h dX7_suspect_5 fX7_56 L0 rfl rfl e7 ?_
  refine z_cVi1 h dX7_suspect_8 lX7_159 vX5_mostGained rfl L4 (c_X5_mostGained σ la hla S.2.1 hP) rfl (Nat.le_of_ble_eq_true rfl) (by decide) (fun v σ1 g3 => ?_)
  refine z_irI h hr dX7_suspect_11 ?_
  exact fin _ _ g3.1 (by unfold zok; omega) (zfr_mono g3.2.2 (by omega) (by omega))
def aHush (S : zSt) (i m r : Int) : Prop := ((0 ≤ i ∧ i < S.2.1.1.length) ∧ 0 ≤ m ∧ m < 200 → hOk (zSv S.2.1 i m.toNat) (2 ^ S.2.1.2.1.length) r) ∧ (¬ ((0 ≤ i ∧ i < S.2.1.1.length) ∧ 0 ≤ m ∧ m < 200) → r = -1)
theorem aHush_one {S : zSt} {i m r r' : Int} (h : aHush S i m r) (h' : aHush S i m r') : r = r' := by
  by_cases z : (0 ≤ i ∧ i < S.2.1.1.length) ∧ 0 ≤ m ∧ m < 200
  · exact hOk_one (h.1 z) (h'.1 z)
  · rw [h.2 z, h'.2 z]
theorem hOk_rg {f : Nat → Bool} {N : Nat} {r : Int} (h : hOk f N r) (hN : N ≤ 256) : -4 ≤ r ∧ r < 256 := by
  rcases h with ⟨rfl, -⟩ | ⟨s, h1, rfl, -⟩ <;> omega
theorem c_X7_hush (σ : zM) (S : zSt) (hI : cInv σ S) (i t : Int) (hi : zok i) (ht : zok t) : zCi mX7_hush (fun u => [zr u 0, zi i, zi t]) σ (fun r σ' => aHush S i t r ∧ zok r ∧ cInv σ' S ∧ zfr 0 56 σ σ') := by
  refine zCi_mk (own := RX7) rfl (by decide +kernel) (fun w => [some (zr w 0), some (zi i), some (zi t)]) (fun _ => rfl) (fun _ => Nat.le_of_ble_eq_true rfl) ?_
  intro Γ h hr
  have hI0 := hI
  obtain ⟨la, mu, ⟨hla, hmu, hne⟩, ⟨e7, e8⟩, h3, hP, h5, h6, h7, h8, h9, h10, h11⟩ := hI
  have np10 := hP.2.2.2.2.2.1
  have hpi : 39 ≤ la := by unfold zPl at hla; omega
  have fin : ∀ σ' r, aHush S i t r → zok r → zfr 4 26 σ σ' → aHush S i t r ∧ zok r ∧ cInv σ' S ∧ zfr 0 56 σ σ' := fun σ' r a b c => ⟨a, b, cInv_fr hI0 c, zfr_mono c (by omega) (by omega)⟩
  have bad : ¬ ((0 ≤ i ∧ i < S.2.1.1.length) ∧ 0 ≤ t ∧ t < 200) → aHush S i t (-1) := fun z => ⟨fun z' => absurd z' z, fun _ => rfl⟩
  have good : (0 ≤ i ∧ i < S.2.1.1.length) ∧ 0 ≤ t ∧ t < 200 → zV Γ σ 17 [some (zr (zw Γ) 0), some (zi i), some (zi t)] [] := by
    intro hg
    obtain ⟨tn, rfl⟩ := Int.eq_ofNat_of_zero_le hg.2.1
    refine z_raload_n h dX7_hush_17 rfl ?_
    refine z_getr h dX7_hush_18 fX7_19 L0 rfl ?_
    refine z_raload_n h dX7_hush_21 rfl ?_
    refine y_getd 7 h dX7_hush_22 fX7_56 L0 rfl rfl e7 ?_
    refine z_iload_n h dX7_hush_25 rfl ?_
    refine z_iload_n h dX7_hush_26 rfl ?_
    refine z_cVi3 h dX7_hush_27 lX7_168 vX5_fewestHushed rfl L4 (c_X5_fewestHushed σ la hla S.2.1 hP i hg.1 tn (by omega)) rfl (Nat.le_of_ble_eq_true rfl) (by decide) (fun v σ1 g1 => ?_)
    refine z_irI h hr dX7_hush_30 ?_
    have r1 := hOk_rg g1.1 (Nat.pow_le_pow_right (by decide) hP.2.2.2.1.2.1 : 2 ^ S.2.1.2.1.length ≤ 2 ^ 8)
    exact fin _ _ ⟨fun _ => by rw [Int.toNat_natCast]; exact g1.1, fun z => absurd hg z⟩ (by unfold zok; omega) (zfr_mono g1.2 (by omega) (by omega))
  refine z_raload_n h dX7_hush_0 rfl ?_
  refine z_iload_n h dX7_hush_1 rfl ?_
  refine z_cVi1 h dX7_hush_2 lX7_98 vX7_isPerson rfl L0 (c_X7_isPerson σ la hla e7 S.2.1 hP i hi) rfl (Nat.le_of_ble_eq_true rfl) (by decide) (fun v σ1 g1 => ?_)
  obtain ⟨rfl, rfl⟩ := g1
  refine z_if_eq h dX7_hush_5 (by split <;> omega) (fun b5 => ?_) (fun b5 => ?_)
  · refine z_iconst h dX7_hush_15 ?_
    refine z_irI h hr dX7_hush_16 ?_
    refine fin _ _ (bad ?_) (by unfold zok; omega) zfr_rf
    rintro ⟨z1, z2⟩
    first | (rw [if_pos z1] at b5; omega) | (rw [if_pos z2] at b12; omega)
  · refine z_iload_n h dX7_hush_8 rfl ?_
    refine z_cSi1 h dX7_hush_9 lX7_123 vX7_isMinute (c_X7_isMinute σ1 t ht) rfl (Nat.le_of_ble_eq_true rfl) (by decide) (fun v2 σ2 g2 => ?_)
    obtain ⟨rfl, rfl⟩ := g2
    refine z_if_ne h dX7_hush_12 (by split <;> omega) (fun b12 => ?_) (fun b12 => ?_)
    · refine good ⟨?_, ?_⟩
      · by_cases z : 0 ≤ i ∧ i < (S.2.1.1.length : Int)
        · exact z
        · rw [if_neg z] at b5; omega
      · by_cases z : 0 ≤ t ∧ t < 200
        · exact z
        · rw [if_neg z] at b12; omega
    · refine z_iconst h dX7_hush_15 ?_
      refine z_irI h hr dX7_hush_16 ?_
      refine fin _ _ (bad ?_) (by unfold zok; omega) zfr_rf
      rintro ⟨z1, z2⟩
      first | (rw [if_pos z1] at b5; omega) | (rw [if_pos z2] at b12; omega)
def aAgain (S : zSt) (i w : Int) : Int := if (0 ≤ i ∧ i < S.2.1.1.length) ∧ 0 ≤ w ∧ w ≤ 1 then (if (zAg S.2.1 i 100).1 < 0 then -4 else if w = 0 then (zAg S.2.1 i 100).1 else zTm (zFn S.2.1 (pL S.2.1) 0 []) i - (zAg S.2.1 i 100).2) else -1
theorem c_X7_again (σ : zM) (S : zSt) (hI : cInv σ S) (i w : Int) (hi : zok i) (hw : zok w) : zCi mX7_again (fun u => [zr u 0, zi i, zi w]) σ (fun r σ' => r = aAgain S i w ∧ zok r ∧ cInv σ' S ∧ zfr 0 56 σ σ') := by
  refine zCi_mk (own := RX7) rfl (by decide +kernel) (fun w0 => [some (zr w0 0), some (zi i), some (zi w)]) (fun _ => rfl) (fun _ => Nat.le_of_ble_eq_true rfl) ?_
  intro Γ h hr
  have hI0 := hI
  obtain ⟨la, mu, ⟨hla, hmu, hne⟩, ⟨e7, e8⟩, h3, hP, h5, h6, h7, h8, h9, h10, h11⟩ := hI
  have np10 := hP.2.2.2.2.2.1
  have hpi : 39 ≤ la := by unfold zPl at hla; omega
  have fin : ∀ σ' r, r = aAgain S i w → zok r → zfr 4 26 σ σ' → r = aAgain S i w ∧ zok r ∧ cInv σ' S ∧ zfr 0 56 σ σ' := fun σ' r a b c => ⟨a, b, cInv_fr hI0 c, zfr_mono c (by omega) (by omega)⟩
  unfold zok at hw
  by_cases hin : 0 ≤ i ∧ i < S.2.1.1.length
  · refine z_raload_n h dX7_again_0 rfl ?_
    refine z_iload_n h dX7_again_1 rfl ?_
    refine z_cVi1 h dX7_again_2 lX7_98 vX7_isPerson rfl L0 (c_X7_isPerson σ la hla e7 S.2.1 hP i hi) rfl (Nat.le_of_ble_eq_true rfl) (by decide) (fun v σ1 g1 => ?_)
    obtain ⟨rfl, rfl⟩ := g1
    rw [if_pos hin]
    refine z_if_eq h dX7_again_5 (by omega) (fun b5 => by exfalso; omega) (fun b5 => ?_)
    refine z_iload_n h dX7_again_8 rfl ?_
    refine z_if_lt h dX7_again_9 (by omega) (fun b9 => ?_) (fun b9 => ?_)
    · refine z_iconst h dX7_again_17 ?_
      refine z_irI h hr dX7_again_18 ?_
      exact fin _ _ (by unfold aAgain; rw [if_neg (by omega)]) (by unfold zok; omega) zfr_rf
    · refine z_iload_n h dX7_again_12 rfl ?_
      refine z_iconst h dX7_again_13 ?_
      refine z_icmp_le h dX7_again_14 (by omega) (by omega) (fun b14 => ?_) (fun b14 => ?_)
      · refine z_raload_n h dX7_again_19 rfl ?_
        refine z_getr h dX7_again_20 fX7_19 L0 rfl ?_
        refine z_raload_n h dX7_again_23 rfl ?_
        refine y_getd 7 h dX7_again_24 fX7_56 L0 rfl rfl e7 ?_
        refine z_iload_n h dX7_again_27 rfl ?_
        refine z_cVv2 h dX7_again_28 lX7_172 vX5_cryOnceMore rfl L4 (c_X5_cryOnceMore σ1 la hla S.2.1 hP i hin) rfl (Nat.le_of_ble_eq_true rfl) (by decide) (fun σ2 g2 => ?_)
        have hle := zAg_le S.2.1 i 100
        have ha : aAgain S i w = (if (zAg S.2.1 i 100).1 < 0 then -4 else if w = 0 then (zAg S.2.1 i 100).1 else zTm (zFn S.2.1 (pL S.2.1) 0 []) i - (zAg S.2.1 i 100).2) := if_pos ⟨hin, by omega⟩
        have g3 : zfr 4 26 σ1 σ2 := zfr_mono g2.1 (by omega) (by omega)
        refine z_raload_n h dX7_again_31 rfl ?_
        refine z_getr h dX7_again_32 fX7_19 L0 rfl ?_
        refine y_get 4 h dX7_again_35 fX7_176 L4 rfl rfl ?_
        refine z_if_gt h dX7_again_38 (by omega) (fun b38 => ?_) (fun b38 => ?_)
        · refine z_iload_n h dX7_again_44 rfl ?_
          refine z_if_ne h dX7_again_45 (by omega) (fun b45 => ?_) (fun b45 => ?_)
          · refine z_raload_n h dX7_again_58 rfl ?_
            refine z_getr h dX7_again_59 fX7_19 L0 rfl ?_
            refine y_get 4 h dX7_again_62 fX7_176 L4 rfl rfl ?_
            refine z_irI h hr dX7_again_65 ?_
            have g4 : 0 ≤ (zAg S.2.1 i 100).1 := by omega
            have g5 := g2.2.2 g4
            refine fin _ _ ?_ (by unfold zok; omega) g3
            rw [ha, if_neg (by omega)]
            first
              | (rw [if_pos (by omega)]; exact g5)
              | (rw [if_neg (by omega)]; exact g2.2.1.1)
          · refine z_raload_n h dX7_again_48 rfl ?_
            refine z_getr h dX7_again_49 fX7_19 L0 rfl ?_
            refine y_get 3 h dX7_again_52 fX7_179 L4 rfl rfl ?_
            refine z_goto h dX7_again_55 ?_
            refine z_irI h hr dX7_again_65 ?_
            have g4 : 0 ≤ (zAg S.2.1 i 100).1 := by omega
            have g5 := g2.2.2 g4
            refine fin _ _ ?_ (by unfold zok; omega) g3
            rw [ha, if_neg (by omega)]
            first
              | (rw [if_pos (by omega)]; exact g5)
              | (rw [if_neg (by omega)]; exact g2.2.1.1)
        · refine z_bipush h dX7_again_41 (by decide) ?_
          refine z_irI h hr dX7_again_43 ?_
          exact fin _ _ (by rw [ha, if_pos (by omega)]) (by unfold zok; omega) g3
      · refine z_iconst h dX7_again_17 ?_
        refine z_irI h hr dX7_again_18 ?_
        exact fin _ _ (by unfold aAgain; rw [if_neg (by omega)]) (by unfold zok; omega) zfr_rf
  · refine z_raload_n h dX7_again_0 rfl ?_
    refine z_iload_n h dX7_again_1 rfl ?_
    refine z_cVi1 h dX7_again_2 lX7_98 vX7_isPerson rfl L0 (c_X7_isPerson σ la hla e7 S.2.1 hP i hi) rfl (Nat.le_of_ble_eq_true rfl) (by decide) (fun v σ1 g1 => ?_)
    obtain ⟨rfl, rfl⟩ := g1
    rw [if_neg hin]
    refine z_if_eq h dX7_again_5 (by omega) (fun b5 => ?_) (fun b5 => by exfalso; omega)
    refine z_iconst h dX7_again_17 ?_
    refine z_irI h hr dX7_again_18 ?_
    exact fin _ _ (by unfold aAgain; rw [if_neg (fun z => hin z.1)]) (by unfold zok; omega) zfr_rf
def aGame (S : zSt) (i j w : Int) : Int := if (0 ≤ i ∧ i < S.2.1.1.length) ∧ (0 ≤ j ∧ j < S.2.1.1.length) ∧ i ≠ j ∧ 0 ≤ w ∧ w ≤ 2 then (if w = 0 then (nCnt (zRs S.2.1 i j) 144).1 else if (nCnt (zRs S.2.1 i j) 144).1 = 0 then -4 else if w = 1 then (nCnt (zRs S.2.1 i j) 144).2 / 12 else (nCnt (zRs S.2.1 i j) 144).2 % 12) else -1
theorem c_X7_game (σ : zM) (S : zSt) (hI : cInv σ S) (i j w : Int) (hi : zok i) (hj : zok j) (hw : zok w) : zCi mX7_game (fun u => [zr u 0, zi i, zi j, zi w]) σ (fun r σ' => r = aGame S i j w ∧ zok r ∧ cInv σ' S ∧ zfr 0 56 σ σ') := by
  refine zCi_mk (own := RX7) rfl (by decide +kernel) (fun w0 => [some (zr w0 0), some (zi i), some (zi j), some (zi w)]) (fun _ => rfl) (fun _ => Nat.le_of_ble_eq_true rfl) ?_
  intro Γ h hr
  have hI0 := hI
  obtain ⟨la, mu, ⟨hla, hmu, hne⟩, ⟨e7, e8⟩, h3, hP, h5, h6, h7, h8, h9, h10, h11⟩ := hI
  have np10 := hP.2.2.2.2.2.1
  have hpi : 39 ≤ la := by unfold zPl at hla; omega
  have fin : ∀ σ' r, r = aGame S i j w → zok r → zfr 4 26 σ σ' → r = aGame S i j w ∧ zok r ∧ cInv σ' S ∧ zfr 0 56 σ σ' := fun σ' r a b c => ⟨a, b, cInv_fr hI0 c, zfr_mono c (by omega) (by omega)⟩
  have hi' := hi
  have hj' := hj
  unfold zok at hw hi' hj'
  have bad : ¬ ((0 ≤ i ∧ i < S.2.1.1.length) ∧ (0 ≤ j ∧ j < S.2.1.1.length) ∧ i ≠ j ∧ 0 ≤ w ∧ w ≤ 2) → aGame S i j w = -1 := fun z => if_neg z
  by_cases hin : 0 ≤ i ∧ i < S.2.1.1.length
  · by_cases hjn : 0 ≤ j ∧ j < S.2.1.1.length
    · refine z_raload_n h dX7_game_0 rfl ?_
      refine z_iload_n h dX7_game_1 rfl ?_
      refine z_cVi1 h dX7_game_2 lX7_98 vX7_isPerson rfl L0 (c_X7_isPerson σ la hla e7 S.2.1 hP i hi) rfl (Nat.le_of_ble_eq_true rfl) (by decide) (fun v σ1 g1 => ?_)
      obtain ⟨rfl, rfl⟩ := g1
      rw [if_pos hin]
      refine z_if_eq h dX7_game_5 (by omega) (fun b5 => by exfalso; omega) (fun b5 => ?_)
      refine z_raload_n h dX7_game_8 rfl ?_
      refine z_iload_n h dX7_game_9 rfl ?_
      refine z_cVi1 h dX7_game_10 lX7_98 vX7_isPerson rfl L0 (c_X7_isPerson σ1 la hla e7 S.2.1 hP j hj) rfl (Nat.le_of_ble_eq_true rfl) (by decide) (fun v2 σ2 g2 => ?_)
      obtain ⟨rfl, rfl⟩ := g2
      rw [if_pos hjn]
      refine z_if_eq h dX7_game_13 (by omega) (fun b13 => by exfalso; omega) (fun b13 => ?_)
      refine z_iload_n h dX7_game_16 rfl ?_
      refine z_iload_n h dX7_game_17 rfl ?_
      refine z_icmp_eq h dX7_game_18 (by omega) (by omega) (fun b18 => ?_) (fun b18 => ?_)
      · refine z_iconst h dX7_game_30 ?_
        refine z_irI h hr dX7_game_31 ?_
        exact fin _ _ (bad (by omega)).symm (by unfold zok; omega) zfr_rf
      · refine z_iload_n h dX7_game_21 rfl ?_
        refine z_if_lt h dX7_game_22 (by omega) (fun b22 => ?_) (fun b22 => ?_)
        · refine z_iconst h dX7_game_30 ?_
          refine z_irI h hr dX7_game_31 ?_
          exact fin _ _ (bad (by omega)).symm (by unfold zok; omega) zfr_rf
        · refine z_iload_n h dX7_game_25 rfl ?_
          refine z_iconst h dX7_game_26 ?_
          refine z_icmp_le h dX7_game_27 (by omega) (by omega) (fun b27 => ?_) (fun b27 => ?_)
          · refine z_raload_n h dX7_game_32 rfl ?_
            refine z_getr h dX7_game_33 fX7_19 L0 rfl ?_
            refine z_raload_n h dX7_game_36 rfl ?_
            refine y_getd 7 h dX7_game_37 fX7_56 L0 rfl rfl e7 ?_
            refine z_iload_n h dX7_game_40 rfl ?_
            refine z_iload_n h dX7_game_41 rfl ?_
            refine z_cVv3 h dX7_game_42 lX7_182 vX5_play rfl L4 (c_X5_play σ2 la hla S.2.1 hP i j hin hjn) rfl (Nat.le_of_ble_eq_true rfl) (by decide) (fun σ3 g3 => ?_)
            have ha : aGame S i j w = (if w = 0 then (nCnt (zRs S.2.1 i j) 144).1 else if (nCnt (zRs S.2.1 i j) 144).1 = 0 then -4 else if w = 1 then (nCnt (zRs S.2.1 i j) 144).2 / 12 else (nCnt (zRs S.2.1 i j) 144).2 % 12) := if_pos ⟨hin, hjn, by omega, by omega, by omega⟩
            have g4 : zfr 4 26 σ2 σ3 := zfr_mono g3.1 (by omega) (by omega)
            have g5 := nCnt_rg (zRs S.2.1 i j) 144
            have g6 := g3.2.1
            refine z_iload_n h dX7_game_45 rfl ?_
            refine z_if_ne h dX7_game_46 (by omega) (fun b46 => ?_) (fun b46 => ?_)
            · refine z_raload_n h dX7_game_57 rfl ?_
              refine z_getr h dX7_game_58 fX7_19 L0 rfl ?_
              refine y_get 5 h dX7_game_61 fX7_186 L4 rfl rfl ?_
              refine z_if_ne h dX7_game_64 (by omega) (fun b64 => ?_) (fun b64 => ?_)
              · refine z_iload_n h dX7_game_70 rfl ?_
                refine z_iconst h dX7_game_71 ?_
                refine z_icmp_ne h dX7_game_72 (by omega) (by omega) (fun b72 => ?_) (fun b72 => ?_)
                · refine z_raload_n h dX7_game_85 rfl ?_
                  refine z_getr h dX7_game_86 fX7_19 L0 rfl ?_
                  refine y_get 7 h dX7_game_89 fX7_192 L4 rfl rfl ?_
                  refine z_irI h hr dX7_game_92 ?_
                  obtain ⟨f, f1, f2, f3, f4⟩ := g3.2.2 (by omega)
                  refine fin _ _ ?_ (by unfold zok; omega) g4
                  rw [ha, if_neg (by omega), if_neg (by omega), f2]
                  first
                    | (rw [if_pos (by omega)]; omega)
                    | (rw [if_neg (by omega)]; omega)
                · refine z_raload_n h dX7_game_75 rfl ?_
                  refine z_getr h dX7_game_76 fX7_19 L0 rfl ?_
                  refine y_get 6 h dX7_game_79 fX7_189 L4 rfl rfl ?_
                  refine z_goto h dX7_game_82 ?_
                  refine z_irI h hr dX7_game_92 ?_
                  obtain ⟨f, f1, f2, f3, f4⟩ := g3.2.2 (by omega)
                  refine fin _ _ ?_ (by unfold zok; omega) g4
                  rw [ha, if_neg (by omega), if_neg (by omega), f2]
                  first
                    | (rw [if_pos (by omega)]; omega)
                    | (rw [if_neg (by omega)]; omega)
              · refine z_bipush h dX7_game_67 (by decide) ?_
                refine z_irI h hr dX7_game_69 ?_
                exact fin _ _ (by rw [ha, if_neg (by omega), if_pos (by omega)]) (by unfold zok; omega) g4
            · refine z_raload_n h dX7_game_49 rfl ?_
              refine z_getr h dX7_game_50 fX7_19 L0 rfl ?_
              refine y_get 5 h dX7_game_53 fX7_186 L4 rfl rfl ?_
              refine z_irI h hr dX7_game_56 ?_
              exact fin _ _ (by rw [ha, if_pos (by omega)]; exact g6) (by unfold zok; omega) g4
          · refine z_iconst h dX7_game_30 ?_
            refine z_irI h hr dX7_game_31 ?_
            exact fin _ _ (bad (by omega)).symm (by unfold zok; omega) zfr_rf
    · refine z_raload_n h dX7_game_0 rfl ?_
      refine z_iload_n h dX7_game_1 rfl ?_
      refine z_cVi1 h dX7_game_2 lX7_98 vX7_isPerson rfl L0 (c_X7_isPerson σ la hla e7 S.2.1 hP i hi) rfl (Nat.le_of_ble_eq_true rfl) (by decide) (fun v σ1 g1 => ?_)
      obtain ⟨rfl, rfl⟩ := g1
      rw [if_pos hin]
      refine z_if_eq h dX7_game_5 (by omega) (fun b5 => by exfalso; omega) (fun b5 => ?_)
      refine z_raload_n h dX7_game_8 rfl ?_
      refine z_iload_n h dX7_game_9 rfl ?_
      refine z_cVi1 h dX7_game_10 lX7_98 vX7_isPerson rfl L0 (c_X7_isPerson σ1 la hla e7 S.2.1 hP j hj) rfl (Nat.le_of_ble_eq_true rfl) (by decide) (fun v2 σ2 g2 => ?_)
      obtain ⟨rfl, rfl⟩ := g2
      rw [if_neg hjn]
      refine z_if_eq h dX7_game_13 (by omega) (fun b13 => ?_) (fun b13 => by exfalso; omega)
      refine z_iconst h dX7_game_30 ?_
      refine z_irI h hr dX7_game_31 ?_
      exact fin _ _ (bad (by omega)).symm (by unfold zok; omega) zfr_rf
  · refine z_raload_n h dX7_game_0 rfl ?_
    refine z_iload_n h dX7_game_1 rfl ?_
    refine z_cVi1 h dX7_game_2 lX7_98 vX7_isPerson rfl L0 (c_X7_isPerson σ la hla e7 S.2.1 hP i hi) rfl (Nat.le_of_ble_eq_true rfl) (by decide) (fun v σ1 g1 => ?_)
    obtain ⟨rfl, rfl⟩ := g1
    rw [if_neg hin]
    refine z_if_eq h dX7_game_5 (by omega) (fun b5 => ?_) (fun b5 => by exfalso; omega)
    refine z_iconst h dX7_game_30 ?_
    refine z_irI h hr dX7_game_31 ?_
    exact fin _ _ (bad (by omega)).symm (by unfold zok; omega) zfr_rf
def aLaws (S : zSt) (l : Int) : Int := if -1 ≤ l ∧ l ≤ 3 then (if l = -1 then (zBl S.2.1 3).1 else zU S.2.1 l) else -1
theorem c_X7_laws (σ : zM) (S : zSt) (hI : cInv σ S) (l : Int) (hl : zok l) : zCi mX7_laws (fun u => [zr u 0, zi l]) σ (fun r σ' => r = aLaws S l ∧ zok r ∧ cInv σ' S ∧ zfr 0 56 σ σ') := by
  refine zCi_mk (own := RX7) rfl (by decide +kernel) (fun w => [some (zr w 0), some (zi l)]) (fun _ => rfl) (fun _ => Nat.le_of_ble_eq_true rfl) ?_
  intro Γ h hr
  have hI0 := hI
  obtain ⟨la, mu, ⟨hla, hmu, hne⟩, ⟨e7, e8⟩, h3, hP, h5, h6, h7, h8, h9, h10, h11⟩ := hI
  have np10 := hP.2.2.2.2.2.1
  have hpi : 39 ≤ la := by unfold zPl at hla; omega
  have fin : ∀ σ' r, r = aLaws S l → zok r → zfr 4 26 σ σ' → r = aLaws S l ∧ zok r ∧ cInv σ' S ∧ zfr 0 56 σ σ' := fun σ' r a b c => ⟨a, b, cInv_fr hI0 c, zfr_mono c (by omega) (by omega)⟩
  unfold zok at hl
  refine z_iload_n h dX7_laws_0 rfl ?_
  refine z_iconst h dX7_laws_1 ?_
  refine z_icmp_lt h dX7_laws_2 (by omega) (by omega) (fun b2 => ?_) (fun b2 => ?_)
  · refine z_iconst h dX7_laws_10 ?_
    refine z_irI h hr dX7_laws_11 ?_
    exact fin _ _ (by unfold aLaws; rw [if_neg (by omega)]) (by unfold zok; omega) zfr_rf
  · refine z_iload_n h dX7_laws_5 rfl ?_
    refine z_iconst h dX7_laws_6 ?_
    refine z_icmp_le h dX7_laws_7 (by omega) (by omega) (fun b7 => ?_) (fun b7 => ?_)
    · refine z_iload_n h dX7_laws_12 rfl ?_
      refine z_iconst h dX7_laws_13 ?_
      refine z_icmp_ne h dX7_laws_14 (by omega) (by omega) (fun b14 => ?_) (fun b14 => ?_)
      · refine z_raload_n h dX7_laws_31 rfl ?_
        refine z_getr h dX7_laws_32 fX7_19 L0 rfl ?_
        refine z_raload_n h dX7_laws_35 rfl ?_
        refine y_getd 7 h dX7_laws_36 fX7_56 L0 rfl rfl e7 ?_
        refine z_iload_n h dX7_laws_39 rfl ?_
        refine z_cVi2 h dX7_laws_40 lX7_198 vX5_unfairBy rfl L4 (c_X5_unfairBy σ la hla S.2.1 hP l (by omega)) rfl (Nat.le_of_ble_eq_true rfl) (by decide) (fun v σ1 g1 => ?_)
        refine z_irI h hr dX7_laws_43 ?_
        refine fin _ _ ?_ (by unfold zok; omega) (zfr_mono g1.2.2 (by omega) (by omega))
        unfold aLaws
        rw [if_pos (by omega)]
        first
          | (rw [if_pos (by omega)]; exact g1.1)
          | (rw [if_neg (by omega)]; exact g1.1)
      · refine z_raload_n h dX7_laws_17 rfl ?_
        refine z_getr h dX7_laws_18 fX7_19 L0 rfl ?_
        refine z_raload_n h dX7_laws_21 rfl ?_
        refine y_getd 7 h dX7_laws_22 fX7_56 L0 rfl rfl e7 ?_
        refine z_cVi1 h dX7_laws_25 lX7_195 vX5_bestLaw rfl L4 (c_X5_bestLaw σ la hla S.2.1 hP) rfl (Nat.le_of_ble_eq_true rfl) (by decide) (fun v σ1 g1 => ?_)
        refine z_goto h dX7_laws_28 ?_
        refine z_irI h hr dX7_laws_43 ?_
        refine fin _ _ ?_ (by unfold zok; omega) (zfr_mono g1.2.2 (by omega) (by omega))
        unfold aLaws
        rw [if_pos (by omega)]
        first
          | (rw [if_pos (by omega)]; exact g1.1)
          | (rw [if_neg (by omega)]; exact g1.1)
    · refine z_iconst h dX7_laws_10 ?_
      refine z_irI h hr dX7_laws_11 ?_
      exact fin _ _ (by unfold aLaws; rw [if_neg (by omega)]) (by unfold zok; omega) zfr_rf
def aDrawn (S : zSt) (z w : Int) : Int := if 0 ≤ z ∧ z ≤ 9999 ∧ 0 ≤ w ∧ w ≤ 2 then (if w = 0 then zMany (sRun S.2.1 (pL S.2.1, 0, [], z) 200).2.1 0 S.2.1.1.length else if w = 1 then (sRun S.2.1 (pL S.2.1, 0, [], z) 200).2.2.2.1 else uC S.2.1 (sRun S.2.1 (pL S.2.1, 0, [], z) 200).2.1 (sRun S.2.1 (pL S.2.1, 0, [], z) 200).2.2.1) else -1
theorem c_X7_drawn (σ : zM) (S : zSt) (hI : cInv σ S) (z w : Int) (hz : zok z) (hw : zok w) : zCi mX7_drawn (fun u => [zr u 0, zi z, zi w]) σ (fun r σ' => r = aDrawn S z w ∧ zok r ∧ cInv σ' S ∧ zfr 0 56 σ σ') := by
  refine zCi_mk (own := RX7) rfl (by decide +kernel) (fun w0 => [some (zr w0 0), some (zi z), some (zi w)]) (fun _ => rfl) (fun _ => Nat.le_of_ble_eq_true rfl) ?_
  intro Γ h hr
  have hI0 := hI
  obtain ⟨la, mu, ⟨hla, hmu, hne⟩, ⟨e7, e8⟩, h3, hP, h5, h6, h7, h8, h9, h10, h11⟩ := hI
  have np10 := hP.2.2.2.2.2.1
  have hpi : 39 ≤ la := by unfold zPl at hla; omega
  have fin : ∀ σ' r, r = aDrawn S z w → zok r → zfr 4 26 σ σ' → r = aDrawn S z w ∧ zok r ∧ cInv σ' S ∧ zfr 0 56 σ σ' := fun σ' r a b c => ⟨a, b, cInv_fr hI0 c, zfr_mono c (by omega) (by omega)⟩
  unfold zok at hz hw
  have ha : 0 ≤ z ∧ z ≤ 9999 ∧ 0 ≤ w ∧ w ≤ 2 → aDrawn S z w = (if w = 0 then zMany (sRun S.2.1 (pL S.2.1, 0, [], z) 200).2.1 0 S.2.1.1.length else if w = 1 then (sRun S.2.1 (pL S.2.1, 0, [], z) 200).2.2.2.1 else uC S.2.1 (sRun S.2.1 (pL S.2.1, 0, [], z) 200).2.1 (sRun S.2.1 (pL S.2.1, 0, [], z) 200).2.2.1) := fun q => if_pos q
  refine z_iload_n h dX7_drawn_0 rfl ?_
  refine z_if_lt h dX7_drawn_1 (by omega) (fun b1 => ?_) (fun b1 => ?_)
  · refine z_iconst h dX7_drawn_20 ?_
    refine z_irI h hr dX7_drawn_21 ?_
    exact fin _ _ (by unfold aDrawn; rw [if_neg (by omega)]) (by unfold zok; omega) zfr_rf
  · refine z_iload_n h dX7_drawn_4 rfl ?_
    refine z_sipush h dX7_drawn_5 (by decide) ?_
    refine z_icmp_gt h dX7_drawn_8 (by omega) (by omega) (fun b8 => ?_) (fun b8 => ?_)
    · refine z_iconst h dX7_drawn_20 ?_
      refine z_irI h hr dX7_drawn_21 ?_
      exact fin _ _ (by unfold aDrawn; rw [if_neg (by omega)]) (by unfold zok; omega) zfr_rf
    · refine z_iload_n h dX7_drawn_11 rfl ?_
      refine z_if_lt h dX7_drawn_12 (by omega) (fun b12 => ?_) (fun b12 => ?_)
      · refine z_iconst h dX7_drawn_20 ?_
        refine z_irI h hr dX7_drawn_21 ?_
        exact fin _ _ (by unfold aDrawn; rw [if_neg (by omega)]) (by unfold zok; omega) zfr_rf
      · refine z_iload_n h dX7_drawn_15 rfl ?_
        refine z_iconst h dX7_drawn_16 ?_
        refine z_icmp_le h dX7_drawn_17 (by omega) (by omega) (fun b17 => ?_) (fun b17 => ?_)
        · refine z_raload_n h dX7_drawn_22 rfl ?_
          refine z_getr h dX7_drawn_23 fX7_27 L0 rfl ?_
          refine z_raload_n h dX7_drawn_26 rfl ?_
          refine y_getd 7 h dX7_drawn_27 fX7_56 L0 rfl rfl e7 ?_
          refine z_cVv1 h dX7_drawn_30 lX7_126 vX1_asTold rfl L5 (c_X1_asTold σ la hla) rfl (Nat.le_of_ble_eq_true rfl) (by decide) (fun σ1 g1 => ?_)
          have g2 : cMd (zup σ1 5 9 z) (pL S.2.1, 0, [], z) := md_draw (md_as hP g1.2) z (by omega)
          have hP1 := cPlan_fr hP (σ' := zup σ1 5 9 z) (fun c a b i => by rw [zup_ne (by omega)]; exact g1.1 c (by omega) (by omega) (by omega) i)
          refine z_raload_n h dX7_drawn_33 rfl ?_
          refine z_getr h dX7_drawn_34 fX7_27 L0 rfl ?_
          refine z_iload_n h dX7_drawn_37 rfl ?_
          refine y_put 9 h dX7_drawn_38 fX7_250 pX1_9 L5 rfl rfl ?_
          refine z_raload_n h dX7_drawn_41 rfl ?_
          refine z_getr h dX7_drawn_42 fX7_27 L0 rfl ?_
          refine z_sipush h dX7_drawn_45 (by decide) ?_
          refine z_cVv1 h dX7_drawn_48 lX7_130 vX1_runTo rfl L5 (c_X1_runTo (zup σ1 5 9 z) la hla (by rw [zup_nei (by omega)]; exact g1.2.1.1) S.2.1 hP1 _ g2 199 (by omega)) rfl (Nat.le_of_ble_eq_true rfl) (by decide) (fun σ2 g4 => ?_)
          have g5 : zfr 4 26 σ σ2 := fun c hc i => ((g4.1.1 c (by omega) i).trans (zup_ne (by omega))).trans (g1.1 c (by omega) (by omega) (by omega) i)
          have e6 : σ2 5 6 = la := (g4.1.2 6 (by omega)).trans (by rw [zup_nei (by omega)]; exact g1.2.1.1)
          have hP2 := cPlan_fr hP1 (σ' := σ2) (fun c a b i => g4.1.1 c (by omega) i)
          refine z_iload_n h dX7_drawn_51 rfl ?_
          refine z_if_ne h dX7_drawn_52 (by omega) (fun b52 => ?_) (fun b52 => ?_)
          · refine z_iload_n h dX7_drawn_64 rfl ?_
            refine z_iconst h dX7_drawn_65 ?_
            refine z_icmp_ne h dX7_drawn_66 (by omega) (by omega) (fun b66 => ?_) (fun b66 => ?_)
            · refine z_raload_n h dX7_drawn_79 rfl ?_
              refine z_getr h dX7_drawn_80 fX7_27 L0 rfl ?_
              refine z_cVi0 h dX7_drawn_83 lX7_142 vX1_unfair rfl L5 (c_X1_unfair σ2 la hla e6 S.2.1 hP2 _ _ g4.2.2.1) rfl (Nat.le_of_ble_eq_true rfl) (by decide) (fun v σ3 g3 => ?_)
              obtain ⟨rfl, rfl⟩ := g3
              refine z_irI h hr dX7_drawn_86 ?_
              have r := sTurns_rg S.2.1 (pL S.2.1, 0, [], z) (199 + 1)
              have r2 := g4.2.2.2
              have r3 := uC_rg S.2.1 np10 (sRun S.2.1 (pL S.2.1, 0, [], z) (199 + 1)).2.1 (sRun S.2.1 (pL S.2.1, 0, [], z) (199 + 1)).2.2.1
              refine fin _ _ ?_ (by unfold zok; omega) g5
              rw [ha (by omega), if_neg (by omega)]
              first
                | (rw [if_pos (by omega)]; exact r2)
                | (rw [if_neg (by omega)])
            · refine z_raload_n h dX7_drawn_69 rfl ?_
              refine z_getr h dX7_drawn_70 fX7_27 L0 rfl ?_
              refine y_get 14 h dX7_drawn_73 fX7_139 L5 rfl rfl ?_
              refine z_goto h dX7_drawn_76 ?_
              refine z_irI h hr dX7_drawn_86 ?_
              have r := sTurns_rg S.2.1 (pL S.2.1, 0, [], z) (199 + 1)
              have r2 := g4.2.2.2
              have r3 := uC_rg S.2.1 np10 (sRun S.2.1 (pL S.2.1, 0, [], z) (199 + 1)).2.1 (sRun S.2.1 (pL S.2.1, 0, [], z) (199 + 1)).2.2.1
              refine fin _ _ ?_ (by unfold zok; omega) g5
              rw [ha (by omega), if_neg (by omega)]
              first
                | (rw [if_pos (by omega)]; exact r2)
                | (rw [if_neg (by omega)])
          · refine z_raload_n h dX7_drawn_55 rfl ?_
            refine z_getr h dX7_drawn_56 fX7_27 L0 rfl ?_
            refine z_iconst h dX7_drawn_59 ?_
            refine z_cVi1 h dX7_drawn_60 lX7_146 vX1_manyOf rfl L5 (c_X1_manyOf σ2 la hla e6 S.2.1 hP2 _ _ g4.2.2.1 0 (by omega)) rfl (Nat.le_of_ble_eq_true rfl) (by decide) (fun v σ3 g3 => ?_)
            obtain ⟨rfl, rfl⟩ := g3
            refine z_irI h hr dX7_drawn_63 ?_
            have r2 := zMany_rg (sRun S.2.1 (pL S.2.1, 0, [], z) (199 + 1)).2.1 0 S.2.1.1.length
            refine fin _ _ ?_ (by unfold zok; omega) g5
            rw [ha (by omega), if_pos (by omega)]
        · refine z_iconst h dX7_drawn_20 ?_
          refine z_irI h hr dX7_drawn_21 ?_
          exact fin _ _ (by unfold aDrawn; rw [if_neg (by omega)]) (by unfold zok; omega) zfr_rf
