/-! ===== the class as a whole ===== -/
/-- THE TEXT, what is LAID, how many cries can't be taken back, KEPT, names served, names as they stood -/
abbrev zSt : Type := List Int × zP × Nat × List (List (Int × Int)) × List Int × List Int
def cInv (σ : zM) (S : zSt) : Prop := ∃ la mu : Nat, (zPl la ∧ zPl mu ∧ la ≠ mu) ∧ (σ 0 7 = la ∧ σ 0 8 = mu) ∧ cText σ S.1 ∧ cPlan σ la S.2.1 ∧ (∃ l, cCry σ (mu + 5) l) ∧ (σ 0 9 = S.2.2.1 ∧ S.2.2.1 ≤ S.2.1.2.1.length) ∧ (σ 0 6 = S.2.2.2.1.length ∧ S.2.2.2.1.length ≤ 2) ∧ (∀ (k : Nat) l, S.2.2.2.1[k]? = some l → cCry σ (31 + 4 * k) l ∧ ∀ c ∈ l, 0 ≤ c.1 ∧ c.1 < S.2.1.1.length) ∧ ((∃ l, cCry σ 31 l) ∧ ∃ l, cCry σ 35 l) ∧ cNames σ S.2.2.2.2.1 S.2.2.2.2.2 ∧ 1 ≤ S.2.1.1.length
theorem cInv_fr {σ σ' : zM} {S : zSt} (h : cInv σ S) (hf : zfr 4 26 σ σ') : cInv σ' S := by
  obtain ⟨la, mu, h1, h2, h3, h4, ⟨l, h5⟩, h6, h7, h8, ⟨⟨l1, h9⟩, l2, h10⟩, h11, h12⟩ := h
  have p1 : 39 ≤ la ∧ 39 ≤ mu := by unfold zPl at h1; omega
  have f0 := hf 0 (by omega)
  refine ⟨la, mu, h1, by rw [f0, f0]; exact h2, cText_fr h3 (hf 1 (by omega) 2) (fun i => hf 2 (by omega) i) (fun i a b => by rw [hf 3 (by omega)]; exact h3.2.2.2 i a b), cPlan_fr h4 (fun c a b i => hf c (by omega) i), ⟨l, cCry_fr h5 (fun c a b i => hf c (by omega) i)⟩, by rw [f0]; exact h6, by rw [f0]; exact h7, fun k l hk => ⟨cCry_fr (h8 k l hk).1 (fun c a b i => hf c (by omega) i), (h8 k l hk).2⟩, ⟨⟨l1, cCry_fr h9 (fun c a b i => hf c (by omega) i)⟩, l2, cCry_fr h10 (fun c a b i => hf c (by omega) i)⟩, cNames_fr h11 (hf 27 (by omega) 2) (hf 27 (by omega) 3) (fun i => hf 28 (by omega) i) (fun i => hf 29 (by omega) i), h12⟩
def zok (r : Int) : Prop := -2147483648 ≤ r ∧ r ≤ 2147483647
theorem c_X7_isPerson (σ : zM) (la : Nat) (hla : zPl la) (e7 : σ 0 7 = la) (P : zP) (hP : cPlan σ la P) (i : Int) (hi : zok i) : zCi mX7_isPerson (fun w => [zr w 0, zi i]) σ (fun r σ' => r = (if 0 ≤ i ∧ i < P.1.length then 1 else 0) ∧ σ' = σ) := by
  unfold zok at hi
  refine zCi_mk (own := RX7) rfl (by decide +kernel) (fun w => [some (zr w 0), some (zi i)]) (fun _ => rfl) (fun _ => Nat.le_of_ble_eq_true rfl) ?_
  intro Γ h hr
  have q1 := hP.1
  have np10 := hP.2.2.2.2.2.1
  refine z_raload_n h dX7_isPerson_0 rfl ?_
  refine y_getd 7 h dX7_isPerson_1 fX7_56 L0 rfl rfl e7 ?_
  refine z_iload_n h dX7_isPerson_4 rfl ?_
  refine z_cVi1 h dX7_isPerson_5 lX7_260 vX4_isTold rfl (zPl_o hla) (c_X4_isTold σ la hla i hi (by omega)) rfl (Nat.le_of_ble_eq_true rfl) (by decide) (fun v σ1 h1 => ?_)
  obtain ⟨rfl, rfl⟩ := h1
  rw [q1]
  have hv : (if 0 ≤ i ∧ i < (P.1.length : Int) then (1 : Int) else 0) = 0 ∨ (if 0 ≤ i ∧ i < (P.1.length : Int) then (1 : Int) else 0) = 1 := by split <;> simp
  refine z_irZ h hr dX7_isPerson_8 (by first | decide | omega | simp_all) ?_
  exact ⟨rfl, rfl⟩
theorem c_X7_isMinute (σ : zM) (t : Int) (ht : zok t) : zCi mX7_isMinute (fun w => [zi t]) σ (fun r σ' => r = (if 0 ≤ t ∧ t < 200 then 1 else 0) ∧ σ' = σ) := by
  unfold zok at ht
  refine zCi_mk (own := RX7) rfl (by decide +kernel) (fun w => [some (zi t)]) (fun _ => rfl) (fun _ => Nat.le_of_ble_eq_true rfl) ?_
  intro Γ h hr
  refine z_iload_n h dX7_isMinute_0 rfl ?_
  refine z_if_lt h dX7_isMinute_1 (by omega) (fun b1 => ?_) (fun b1 => ?_)
  · refine z_iconst h dX7_isMinute_15 ?_
    refine z_irZ h hr dX7_isMinute_16 (by first | decide | omega | simp_all) ?_
    refine ⟨?_, rfl⟩
    split <;> omega
  · refine z_iload_n h dX7_isMinute_4 rfl ?_
    refine z_sipush h dX7_isMinute_5 (by decide) ?_
    refine z_icmp_ge h dX7_isMinute_8 (by omega) (by omega) (fun b8 => ?_) (fun b8 => ?_)
    · refine z_iconst h dX7_isMinute_15 ?_
      refine z_irZ h hr dX7_isMinute_16 (by first | decide | omega | simp_all) ?_
      refine ⟨?_, rfl⟩
      split <;> omega
    · refine z_iconst h dX7_isMinute_11 ?_
      refine z_goto h dX7_isMinute_12 ?_
      refine z_irZ h hr dX7_isMinute_16 (by first | decide | omega | simp_all) ?_
      refine ⟨?_, rfl⟩
      split <;> omega
theorem c_X7_areOdds (σ : zM) (n x : Int) (hn : zok n) (hx : zok x) : zCi mX7_areOdds (fun w => [zi n, zi x]) σ (fun r σ' => r = (if 1 ≤ n ∧ n ≤ 9 ∧ 0 ≤ x ∧ x ≤ 10 then 1 else 0) ∧ σ' = σ) := by
  unfold zok at hn hx
  refine zCi_mk (own := RX7) rfl (by decide +kernel) (fun w => [some (zi n), some (zi x)]) (fun _ => rfl) (fun _ => Nat.le_of_ble_eq_true rfl) ?_
  intro Γ h hr
  refine z_iload_n h dX7_areOdds_0 rfl ?_
  refine z_iconst h dX7_areOdds_1 ?_
  refine z_icmp_lt h dX7_areOdds_2 (by omega) (by omega) (fun b2 => ?_) (fun b2 => ?_)
  · refine z_iconst h dX7_areOdds_25 ?_
    refine z_irZ h hr dX7_areOdds_26 (by first | decide | omega | simp_all) ?_
    refine ⟨?_, rfl⟩
    split <;> omega
  · refine z_iload_n h dX7_areOdds_5 rfl ?_
    refine z_bipush h dX7_areOdds_6 (by decide) ?_
    refine z_icmp_gt h dX7_areOdds_8 (by omega) (by omega) (fun b8 => ?_) (fun b8 => ?_)
    · refine z_iconst h dX7_areOdds_25 ?_
      refine z_irZ h hr dX7_areOdds_26 (by first | decide | omega | simp_all) ?_
      refine ⟨?_, rfl⟩
      split <;> omega
    · refine z_iload_n h dX7_areOdds_11 rfl ?_
      refine z_if_lt h dX7_areOdds_12 (by omega) (fun b12 => ?_) (fun b12 => ?_)
      · refine z_iconst h dX7_areOdds_25 ?_
        refine z_irZ h hr dX7_areOdds_26 (by first | decide | omega | simp_all) ?_
        refine ⟨?_, rfl⟩
        split <;> omega
      · refine z_iload_n h dX7_areOdds_15 rfl ?_
        refine z_bipush h dX7_areOdds_16 (by decide) ?_
        refine z_icmp_gt h dX7_areOdds_18 (by omega) (by omega) (fun b18 => ?_) (fun b18 => ?_)
        · refine z_iconst h dX7_areOdds_25 ?_
          refine z_irZ h hr dX7_areOdds_26 (by first | decide | omega | simp_all) ?_
          refine ⟨?_, rfl⟩
          split <;> omega
        · refine z_iconst h dX7_areOdds_21 ?_
          refine z_goto h dX7_areOdds_22 ?_
          refine z_irZ h hr dX7_areOdds_26 (by first | decide | omega | simp_all) ?_
          refine ⟨?_, rfl⟩
          split <;> omega
/-- the morning as told, run to minute la -/
def cAs (σ σ' : zM) (P : zP) (s : zS) (π : Nat) : Prop := zfr 5 11 σ σ' ∧ σ' 5 6 = π ∧ cRow σ' s.1 P.1.length ∧ cEnd σ' s.2.1 s.2.2.1 ∧ σ' 5 14 = s.2.2.2.1
theorem c_X7_runAsTold (σ : zM) (la : Nat) (hla : zPl la) (e7 : σ 0 7 = la) (P : zP) (hP : cPlan σ la P) : zCv mX7_runAsTold (fun w => [zr w 0]) σ (fun σ' => cAs σ σ' P (zFn P (pL P) 0 []) la) := by
  refine zCv_mk (own := RX7) rfl (by decide +kernel) (fun w => [some (zr w 0)]) (fun _ => rfl) (fun _ => Nat.le_of_ble_eq_true rfl) ?_
  intro Γ h hr
  have hpi : 39 ≤ la := by unfold zPl at hla; omega
  refine z_raload_n h dX7_runAsTold_0 rfl ?_
  refine z_getr h dX7_runAsTold_1 fX7_27 L0 rfl ?_
  refine z_raload_n h dX7_runAsTold_4 rfl ?_
  refine y_getd 7 h dX7_runAsTold_5 fX7_56 L0 rfl rfl e7 ?_
  refine z_cVv1 h dX7_runAsTold_8 lX7_126 vX1_asTold rfl L5 (c_X1_asTold σ la hla) rfl (Nat.le_of_ble_eq_true rfl) (by decide) (fun σ1 h1 => ?_)
  have h2 := md_as hP h1.2
  refine z_raload_n h dX7_runAsTold_11 rfl ?_
  refine z_getr h dX7_runAsTold_12 fX7_27 L0 rfl ?_
  refine z_sipush h dX7_runAsTold_15 (by decide) ?_
  refine z_cVv1 h dX7_runAsTold_18 lX7_130 vX1_runTo rfl L5 (c_X1_runTo σ1 la hla h1.2.1.1 P (cPlan_fr hP (fun c a b i => h1.1 c (by omega) (by omega) (by omega) i)) _ h2 199 (by omega)) rfl (Nat.le_of_ble_eq_true rfl) (by decide) (fun σ2 h4 => ?_)
  refine z_irV h hr dX7_runAsTold_21 ?_
  exact ⟨fun c hc i => (h4.1.1 c (by omega) i).trans (h1.1 c (by omega) (by omega) (by omega) i), (h4.1.2 6 (by omega)).trans h1.2.1.1, h4.2.1, h4.2.2.1, h4.2.2.2⟩
/-! answers -/
def aPerson (S : zSt) (i w : Int) : Int := if 0 ≤ i ∧ i < S.2.1.1.length then (if w = 0 then pA S.2.1 i else if w = 1 then pC S.2.1 i else if w = 2 then pW S.2.1 i else if w = 3 then (zFn S.2.1 (pL S.2.1) 0 []).2.1 i else if w = 4 then (zFn S.2.1 (pL S.2.1) 0 []).2.2.1 i else -1) else -1
theorem c_X7_person (σ : zM) (S : zSt) (hI : cInv σ S) (i w : Int) (hi : zok i) (hw : zok w) : zCi mX7_person (fun u => [zr u 0, zi i, zi w]) σ (fun r σ' => r = aPerson S i w ∧ zok r ∧ cInv σ' S ∧ zfr 0 56 σ σ') := by
  refine zCi_mk (own := RX7) rfl (by decide +kernel) (fun w0 => [some (zr w0 0), some (zi i), some (zi w)]) (fun _ => rfl) (fun _ => Nat.le_of_ble_eq_true rfl) ?_
  intro Γ h hr
  have hI0 := hI
  obtain ⟨la, mu, ⟨hla, hmu, hne⟩, ⟨e7, e8⟩, h3, hP, h5, h6, h7, h8, h9, h10, h11⟩ := hI
  have np10 := hP.2.2.2.2.2.1
  have fin : ∀ σ' r, r = aPerson S i w → zok r → zfr 5 11 σ σ' → r = aPerson S i w ∧ zok r ∧ cInv σ' S ∧ zfr 0 56 σ σ' := fun σ' r a b c => ⟨a, b, cInv_fr hI0 (zfr_mono c (by omega) (by omega)), zfr_mono c (by omega) (by omega)⟩
  have hw' := hw
  unfold zok at hw'
  by_cases hin : 0 ≤ i ∧ i < S.2.1.1.length
  · have ha : aPerson S i w = (if w = 0 then pA S.2.1 i else if w = 1 then pC S.2.1 i else if w = 2 then pW S.2.1 i else if w = 3 then (zFn S.2.1 (pL S.2.1) 0 []).2.1 i else if w = 4 then (zFn S.2.1 (pL S.2.1) 0 []).2.2.1 i else -1) := if_pos hin
    have hat := cPlan_at hP hin
    have K : zV Γ σ 10 [some (zr (zw Γ) 0), some (zi i), some (zi w)] [] := by
      by_cases e0 : w = 0
      · refine z_iload_n h dX7_person_10 rfl ?_
        refine z_tabIn (t := 44) h (0) dX7_person_11 (e0) (by decide) (by rfl) (by decide) ?_
        refine z_raload_n h dX7_person_44 rfl ?_
        refine y_getd 7 h dX7_person_45 fX7_56 L0 rfl rfl e7 ?_
        refine z_getr h dX7_person_48 fX7_102 (zPl_o hla) rfl ?_
        refine z_iload_n h dX7_person_51 rfl ?_
        refine z_iald h dX7_person_52 (zPl_1 hla) (by decide) (by omega) ?_
        refine z_irI h hr dX7_person_53 ?_
        refine fin _ _ ?_ ?_ zfr_rf
        · rw [ha, if_pos e0]; exact hat.1.1
        · unfold zok; rw [hat.1.1]; omega
      by_cases e1 : w = 1
      · refine z_iload_n h dX7_person_10 rfl ?_
        refine z_tabIn (t := 54) h (1) dX7_person_11 (e1) (by decide) (by rfl) (by decide) ?_
        refine z_raload_n h dX7_person_54 rfl ?_
        refine y_getd 7 h dX7_person_55 fX7_56 L0 rfl rfl e7 ?_
        refine z_getr h dX7_person_58 fX7_106 (zPl_o hla) rfl ?_
        refine z_iload_n h dX7_person_61 rfl ?_
        refine z_iald h dX7_person_62 (zPl_2 hla) (by decide) (by omega) ?_
        refine z_irI h hr dX7_person_63 ?_
        refine fin _ _ ?_ ?_ zfr_rf
        · rw [ha, if_neg e0, if_pos e1]; exact hat.1.2.1
        · unfold zok; rw [hat.1.2.1]; omega
      by_cases e2 : w = 2
      · refine z_iload_n h dX7_person_10 rfl ?_
        refine z_tabIn (t := 64) h (2) dX7_person_11 (e2) (by decide) (by rfl) (by decide) ?_
        refine z_raload_n h dX7_person_64 rfl ?_
        refine y_getd 7 h dX7_person_65 fX7_56 L0 rfl rfl e7 ?_
        refine z_getr h dX7_person_68 fX7_109 (zPl_o hla) rfl ?_
        refine z_iload_n h dX7_person_71 rfl ?_
        refine z_iald h dX7_person_72 (zPl_3 hla) (by decide) (by omega) ?_
        refine z_irI h hr dX7_person_73 ?_
        refine fin _ _ ?_ ?_ zfr_rf
        · rw [ha, if_neg e0, if_neg e1, if_pos e2]; exact hat.1.2.2
        · unfold zok; rw [hat.1.2.2]; omega
      by_cases e3 : w = 3
      · refine z_iload_n h dX7_person_10 rfl ?_
        refine z_tabIn (t := 74) h (3) dX7_person_11 (e3) (by decide) (by rfl) (by decide) ?_
        refine z_raload_n h dX7_person_74 rfl ?_
        refine z_cVv0 h dX7_person_75 lX7_112 vX7_runAsTold rfl L0 (c_X7_runAsTold σ la hla e7 S.2.1 hP) rfl (Nat.le_of_ble_eq_true rfl) (by decide) (fun σ2 g1 => ?_)
        have g2 := g1.2.2.2.1 i (by omega) (by omega)
        refine z_raload_n h dX7_person_78 rfl ?_
        refine z_getr h dX7_person_79 fX7_27 L0 rfl ?_
        refine z_getr h dX7_person_82 fX7_115 L5 rfl ?_
        refine z_iload_n h dX7_person_85 rfl ?_
        refine z_iald h dX7_person_86 L6 (by decide) (by omega) ?_
        refine z_irI h hr dX7_person_87 ?_
        refine fin _ _ ?_ ?_ g1.1
        · rw [ha, if_neg e0, if_neg e1, if_neg e2, if_pos e3]; exact g2.1.1
        · unfold zok; rw [g2.1.1]; omega
      by_cases e4 : w = 4
      · refine z_iload_n h dX7_person_10 rfl ?_
        refine z_tabIn (t := 88) h (4) dX7_person_11 (e4) (by decide) (by rfl) (by decide) ?_
        refine z_raload_n h dX7_person_88 rfl ?_
        refine z_cVv0 h dX7_person_89 lX7_112 vX7_runAsTold rfl L0 (c_X7_runAsTold σ la hla e7 S.2.1 hP) rfl (Nat.le_of_ble_eq_true rfl) (by decide) (fun σ2 g1 => ?_)
        have g2 := g1.2.2.2.1 i (by omega) (by omega)
        refine z_raload_n h dX7_person_92 rfl ?_
        refine z_getr h dX7_person_93 fX7_27 L0 rfl ?_
        refine z_getr h dX7_person_96 fX7_120 L5 rfl ?_
        refine z_iload_n h dX7_person_99 rfl ?_
        refine z_iald h dX7_person_100 L7 (by decide) (by omega) ?_
        refine z_irI h hr dX7_person_101 ?_
        refine fin _ _ ?_ ?_ g1.1
        · rw [ha, if_neg e0, if_neg e1, if_neg e2, if_neg e3, if_pos e4]; exact g2.1.2
        · unfold zok; rw [g2.1.2]; omega
      · refine z_iload_n h dX7_person_10 rfl ?_
        refine z_tabOut (t := 102) h dX7_person_11 (by omega) (by omega) (by decide) ?_
        refine z_iconst h dX7_person_102 ?_
        refine z_irI h hr dX7_person_103 ?_
        refine fin _ _ ?_ ?_ zfr_rf
        · rw [ha, if_neg e0, if_neg e1, if_neg e2, if_neg e3, if_neg e4]
        · unfold zok; omega
    refine z_raload_n h dX7_person_0 rfl ?_
    refine z_iload_n h dX7_person_1 rfl ?_
    refine z_cVi1 h dX7_person_2 lX7_98 vX7_isPerson rfl L0 (c_X7_isPerson σ la hla e7 S.2.1 hP i hi) rfl (Nat.le_of_ble_eq_true rfl) (by decide) (fun v σ1 h1 => ?_)
    obtain ⟨rfl, rfl⟩ := h1
    rw [if_pos hin]
    refine z_if_ne h dX7_person_5 (by omega) (fun b5 => ?_) (fun b5 => by exfalso; omega)
    exact K
  · refine z_raload_n h dX7_person_0 rfl ?_
    refine z_iload_n h dX7_person_1 rfl ?_
    refine z_cVi1 h dX7_person_2 lX7_98 vX7_isPerson rfl L0 (c_X7_isPerson σ la hla e7 S.2.1 hP i hi) rfl (Nat.le_of_ble_eq_true rfl) (by decide) (fun v σ1 h1 => ?_)
    obtain ⟨rfl, rfl⟩ := h1
    rw [if_neg hin]
    refine z_if_ne h dX7_person_5 (by omega) (fun b5 => by exfalso; omega) (fun b5 => ?_)
    refine z_iconst h dX7_person_8 ?_
    refine z_irI h hr dX7_person_9 ?_
    refine fin _ _ (if_neg hin).symm ?_ zfr_rf
    unfold zok; omega
