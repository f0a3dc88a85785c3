abbrev mCpy (σ σ' : zM) (a b : Int) : Prop := (∀ c, c ≠ 68 → c ≠ 69 → c ≠ 70 → ∀ i, σ' c i = σ c i) ∧ (∀ i, σ' 68 i = if i = b then σ 68 a else σ 68 i) ∧ (∀ c i, c = 69 ∨ c = 70 → (i < 8 * b ∨ 8 * b + 8 ≤ i) → σ' c i = σ c i) ∧ ∀ k : Int, 0 ≤ k → k < 8 → σ' 69 (8 * b + k) = σ 69 (8 * a + k) ∧ σ' 70 (8 * b + k) = σ 70 (8 * a + k)
theorem mCr_cpy {σ σ' : zM} {a b : Int} {l : List (Int × Int)} (h : mCpy σ σ' a b) (hl : mCr σ a l) : mCr σ' b l := by
  refine ⟨by rw [h.2.1, if_pos rfl]; exact hl.1, hl.2.1, fun k p hk => ?_⟩
  have hk2 := (List.getElem?_eq_some_iff.mp hk).1
  have := h.2.2.2 k (by omega) (by have := hl.2.1; omega)
  rw [this.1, this.2]
  exact hl.2.2 k p hk
theorem mCr_cpx {σ σ' : zM} {a b c : Int} {l : List (Int × Int)} (h : mCpy σ σ' a b) (hc : c ≠ b) (hl : mCr σ c l) : mCr σ' c l := by
  refine mCr_fr hl (by rw [h.2.1, if_neg hc]) (fun k k1 k2 => ⟨h.2.2.1 69 _ (by omega) (by omega), h.2.2.1 70 _ (by omega) (by omega)⟩)
theorem mPlan_cr {σ σ' : zM} {β : Int} {P : zP} (h : mPlan σ β P) (hf : ∀ c, 59 ≤ c → c ≤ 67 → ∀ i, σ' c i = σ c i) (l : List (Int × Int)) (hl : mCr σ' β l) (hw : ∀ c ∈ l, 0 ≤ c.1 ∧ c.1 < P.1.length) : mPlan σ' β (P.1, l, P.2.2) := by
  obtain ⟨q1, q2, q3, q4, q5⟩ := h
  refine ⟨by rw [hf 59 (by omega) (by omega)]; exact q1, fun k p hk => ?_, hl, ?_, q5.1, q5.2.1, hw, q5.2.2.2⟩
  · rw [hf 60 (by omega) (by omega), hf 61 (by omega) (by omega), hf 62 (by omega) (by omega)]; exact q2 k p hk
  · rw [hf 63 (by omega) (by omega), hf 64 (by omega) (by omega), hf 65 (by omega) (by omega), hf 66 (by omega) (by omega), hf 67 (by omega) (by omega)]; exact q4
theorem c_X8_count (σ : zM) (S : zSt) (hI : mInv σ S) (w : Int) (hw : zok w) : zCi mX8_count (fun u => [zr u 57, zi w]) σ (fun r σ' => r = aCount S w ∧ mInv σ' S ∧ zfr 57 79 σ σ') := by
  refine zCi_mk (own := RX8) rfl (by decide +kernel) (fun w0 => [some (zr w0 57), some (zi w)]) (fun _ => rfl) (fun _ => Nat.le_of_ble_eq_true rfl) ?_
  intro Γ h hr
  have hI0 := hI
  obtain ⟨hT, hP, h3, h4, h5, h6, h7⟩ := hI
  have np10 := hP.2.2.2.2.1
  have q3 := hP.2.2.1
  have c1 := q3.1
  have c2 := q3.2.1
  unfold zok at hw
  unfold aCount at hr
  by_cases y0 : w = 0
  · refine z_iload_n h dX8_count_0 rfl ?_
    refine z_tabIn (t := 48) h (0) dX8_count_1 (y0) (by decide) (by rfl) (by decide) ?_
    refine z_raload_n h dX8_count_48 rfl ?_
    refine z_getr h dX8_count_49 fX8_13 L57 rfl ?_
    refine z_iconst h dX8_count_52 ?_
    refine z_iald h dX8_count_53 L59 (by decide) (by omega) ?_
    refine z_irI h hr dX8_count_54 ?_
    refine ⟨?_, hI0, zfr_rf⟩
    rw [if_pos y0]
    exact hP.1
  by_cases y1 : w = 1
  · refine z_iload_n h dX8_count_0 rfl ?_
    refine z_tabIn (t := 55) h (1) dX8_count_1 (y1) (by decide) (by rfl) (by decide) ?_
    refine z_raload_n h dX8_count_55 rfl ?_
    refine z_getr h dX8_count_56 fX8_40 L57 rfl ?_
    refine z_iconst h dX8_count_59 ?_
    refine z_iald h dX8_count_60 L68 (by decide) (by omega) ?_
    refine z_irI h hr dX8_count_61 ?_
    refine ⟨?_, hI0, zfr_rf⟩
    rw [if_neg y0, if_pos y1]
    exact c1
  by_cases y2 : w = 2
  · refine z_iload_n h dX8_count_0 rfl ?_
    refine z_tabIn (t := 62) h (2) dX8_count_1 (y2) (by decide) (by rfl) (by decide) ?_
    refine z_raload_n h dX8_count_62 rfl ?_
    refine y_get 15 h dX8_count_63 fX8_127 L57 rfl rfl ?_
    refine z_irI h hr dX8_count_66 ?_
    refine ⟨?_, hI0, zfr_rf⟩
    rw [if_neg y0, if_neg y1, if_pos y2]
    exact h3.2
  by_cases y3 : w = 3
  · refine z_iload_n h dX8_count_0 rfl ?_
    refine z_tabIn (t := 67) h (3) dX8_count_1 (y3) (by decide) (by rfl) (by decide) ?_
    refine z_raload_n h dX8_count_67 rfl ?_
    refine y_get 14 h dX8_count_68 fX8_124 L57 rfl rfl ?_
    refine z_irI h hr dX8_count_71 ?_
    refine ⟨?_, hI0, zfr_rf⟩
    rw [if_neg y0, if_neg y1, if_neg y2, if_pos y3]
    exact h4.1
  by_cases y4 : w = 4
  · refine z_iload_n h dX8_count_0 rfl ?_
    refine z_tabIn (t := 72) h (4) dX8_count_1 (y4) (by decide) (by rfl) (by decide) ?_
    refine z_raload_n h dX8_count_72 rfl ?_
    refine z_getr h dX8_count_73 fX8_49 L57 rfl ?_
    refine z_iconst h dX8_count_76 ?_
    refine z_iald h dX8_count_77 L71 (by decide) (by omega) ?_
    refine z_irI h hr dX8_count_78 ?_
    refine ⟨?_, hI0, zfr_rf⟩
    rw [if_neg y0, if_neg y1, if_neg y2, if_neg y3, if_pos y4]
    exact h6.1
  by_cases y5 : w = 5
  · refine z_iload_n h dX8_count_0 rfl ?_
    refine z_tabIn (t := 79) h (5) dX8_count_1 (y5) (by decide) (by rfl) (by decide) ?_
    refine z_raload_n h dX8_count_79 rfl ?_
    refine z_getr h dX8_count_80 fX8_49 L57 rfl ?_
    refine z_iconst h dX8_count_83 ?_
    refine z_iald h dX8_count_84 L71 (by decide) (by omega) ?_
    refine z_irI h hr dX8_count_85 ?_
    refine ⟨?_, hI0, zfr_rf⟩
    rw [if_neg y0, if_neg y1, if_neg y2, if_neg y3, if_neg y4, if_pos y5]
    exact h6.2.2.1
  by_cases y6 : w = 6
  · refine z_iload_n h dX8_count_0 rfl ?_
    refine z_tabIn (t := 86) h (6) dX8_count_1 (y6) (by decide) (by rfl) (by decide) ?_
    refine z_raload_n h dX8_count_86 rfl ?_
    refine y_get 0 h dX8_count_87 fX8_87 L57 rfl rfl ?_
    refine z_irI h hr dX8_count_90 ?_
    refine ⟨?_, hI0, zfr_rf⟩
    rw [if_neg y0, if_neg y1, if_neg y2, if_neg y3, if_neg y4, if_neg y5, if_pos y6]
    exact hT.1
  by_cases y7 : w = 7
  · refine z_iload_n h dX8_count_0 rfl ?_
    refine z_tabIn (t := 91) h (7) dX8_count_1 (y7) (by decide) (by rfl) (by decide) ?_
    refine z_raload_n h dX8_count_91 rfl ?_
    refine z_getr h dX8_count_92 fX8_37 L57 rfl ?_
    refine z_iconst h dX8_count_95 ?_
    refine z_iald h dX8_count_96 L67 (by decide) (by omega) ?_
    refine z_irI h hr dX8_count_97 ?_
    refine ⟨?_, hI0, zfr_rf⟩
    rw [if_neg y0, if_neg y1, if_neg y2, if_neg y3, if_neg y4, if_neg y5, if_neg y6, if_pos y7]
    exact hP.2.2.2.1.2.2.2.2
  refine z_iload_n h dX8_count_0 rfl ?_
  refine z_tabOut (t := 98) h dX8_count_1 (by omega) (by omega) (by decide) ?_
  refine z_iconst h dX8_count_98 ?_
  refine z_irI h hr dX8_count_99 ?_
  refine ⟨?_, hI0, zfr_rf⟩
  rw [if_neg y0, if_neg y1, if_neg y2, if_neg y3, if_neg y4, if_neg y5, if_neg y6, if_neg y7]
theorem c_X8_wipe (σ : zM) (S : zSt) (hI : mInv σ S) : zCi mX8_wipe (fun u => [zr u 57]) σ (fun r σ' => r = (S.1.length : Int) ∧ mInv σ' ([], S.2) ∧ zfr 57 79 σ σ') := by
  refine zCi_mk (own := RX8) rfl (by decide +kernel) (fun w => [some (zr w 57), none]) (fun _ => rfl) (fun _ => Nat.le_of_ble_eq_true rfl) ?_
  intro Γ h hr
  have hI0 := hI
  obtain ⟨hT, hP, h3, h4, h5, h6, h7⟩ := hI
  have np10 := hP.2.2.2.2.1
  have q3 := hP.2.2.1
  have c1 := q3.1
  have c2 := q3.2.1
  refine z_raload_n h dX8_wipe_0 rfl ?_
  refine y_get 0 h dX8_wipe_1 fX8_87 L57 rfl rfl ?_
  refine z_ist1_n h dX8_wipe_4 (by decide) (zst1_1 rfl) ?_
  refine z_raload_n h dX8_wipe_5 rfl ?_
  refine z_iconst h dX8_wipe_6 ?_
  refine y_put 0 h dX8_wipe_7 fX8_87 pX8_0 L57 rfl rfl ?_
  refine z_iload_n h dX8_wipe_10 rfl ?_
  refine z_irI h hr dX8_wipe_11 ?_
  refine ⟨hT.1, ?_, zfr_up zfr_rf (by omega) (by omega)⟩
  have hf : ∀ c i, ¬ (c = 57 ∧ i = 0) → zup σ 57 0 0 c i = σ c i := fun c i z => by
    by_cases e : c = 57
    · rw [zup_nei (fun y => z ⟨e, y⟩)]
    · rw [zup_ne e]
  refine ⟨⟨zup_eq _ _ _ _, by simp, by simp⟩, mPlan_fr hP (fun c hc => hf c _ (by omega)) (fun c k _ _ _ => hf c _ (by omega)) (mCr_fr q3 (hf 68 _ (by omega)) (fun k _ _ => ⟨hf 69 _ (by omega), hf 70 _ (by omega)⟩)), ⟨h3.1, by rw [hf 57 15 (by omega)]; exact h3.2⟩, ⟨by rw [hf 57 14 (by omega)]; exact h4.1, h4.2⟩, fun k l hk => ⟨mCr_fr (h5 k l hk).1 (hf 68 _ (by omega)) (fun j _ _ => ⟨hf 69 _ (by omega), hf 70 _ (by omega)⟩), (h5 k l hk).2⟩, mNames_fr h6 (fun i => hf 71 i (by omega)) (fun i => hf 72 i (by omega)), h7⟩
theorem c_X8_fault (σ : zM) (S : zSt) (hI : mInv σ S) : zCi mX8_fault (fun u => [zr u 57]) σ (fun r σ' => r = (pAll S.1 300 0 zP0).1 ∧ mInv σ' S ∧ zfr 57 79 σ σ') := by
  refine zCi_mk (own := RX8) rfl (by decide +kernel) (fun w => [some (zr w 57)]) (fun _ => rfl) (fun _ => Nat.le_of_ble_eq_true rfl) ?_
  intro Γ h hr
  refine z_raload_n h dX8_fault_0 rfl ?_
  refine z_cVi0 h dX8_fault_1 lX8_116 vX8_readAll rfl L57 (c_X8_readAll σ S.1 hI.1) rfl (Nat.le_of_ble_eq_true rfl) (by decide) (fun v σ1 g1 => ?_)
  refine z_irI h hr dX8_fault_4 ?_
  exact ⟨g1.2.1, mInv_rd hI g1.1, fun c hc i => g1.1 c i (by unfold mRi; omega)⟩
theorem c_X8_noNames (σ : zM) (S : zSt) (hI : mInv σ S) : zCi mX8_noNames (fun u => [zr u 57]) σ (fun r σ' => r = (S.2.2.2.2.1.length : Int) + S.2.2.2.2.2.length ∧ mInv σ' (S.1, S.2.1, S.2.2.1, S.2.2.2.1, [], []) ∧ zfr 57 79 σ σ') := by
  refine zCi_mk (own := RX8) rfl (by decide +kernel) (fun w => [some (zr w 57), none]) (fun _ => rfl) (fun _ => Nat.le_of_ble_eq_true rfl) ?_
  intro Γ h hr
  have hI0 := hI
  obtain ⟨hT, hP, h3, h4, h5, h6, h7⟩ := hI
  have np10 := hP.2.2.2.2.1
  have q3 := hP.2.2.1
  have c1 := q3.1
  have c2 := q3.2.1
  refine z_raload_n h dX8_noNames_0 rfl ?_
  refine z_getr h dX8_noNames_1 fX8_49 L57 rfl ?_
  refine z_iconst h dX8_noNames_4 ?_
  refine z_iald h dX8_noNames_5 L71 (by decide) (by omega) ?_
  refine z_raload_n h dX8_noNames_6 rfl ?_
  refine z_getr h dX8_noNames_7 fX8_49 L57 rfl ?_
  refine z_iconst h dX8_noNames_10 ?_
  refine z_iald h dX8_noNames_11 L71 (by decide) (by omega) ?_
  refine z_iadd h dX8_noNames_12 ?_
  refine z_ist1_n h dX8_noNames_13 (by decide) (zst1_1 rfl) ?_
  refine z_raload_n h dX8_noNames_14 rfl ?_
  refine z_getr h dX8_noNames_15 fX8_49 L57 rfl ?_
  refine z_iconst h dX8_noNames_18 ?_
  refine z_iconst h dX8_noNames_19 ?_
  refine z_iast h dX8_noNames_20 L71 (by decide) (by omega) ?_
  refine z_raload_n h dX8_noNames_21 rfl ?_
  refine z_getr h dX8_noNames_22 fX8_49 L57 rfl ?_
  refine z_iconst h dX8_noNames_25 ?_
  refine z_iconst h dX8_noNames_26 ?_
  refine z_iast h dX8_noNames_27 L71 (by decide) (by omega) ?_
  refine z_iload_n h dX8_noNames_28 rfl ?_
  refine z_irI h hr dX8_noNames_29 ?_
  refine ⟨by rw [h6.1, h6.2.2.1], ?_, zfr_up (zfr_up zfr_rf (by omega) (by omega)) (by omega) (by omega)⟩
  have hf : ∀ c i, c ≠ 71 → zup (zup σ 71 0 0) 71 1 0 c i = σ c i := fun c i z => by rw [zup_ne z, zup_ne z]
  refine ⟨mText_fr hT (hf 57 0 (by omega)) (fun i => hf 58 i (by omega)), mPlan_fr hP (fun c hc => hf c _ (by omega)) (fun c k _ _ _ => hf c _ (by omega)) (mCr_fr q3 (hf 68 _ (by omega)) (fun k _ _ => ⟨hf 69 _ (by omega), hf 70 _ (by omega)⟩)), ⟨h3.1, by rw [hf 57 15 (by omega)]; exact h3.2⟩, ⟨by rw [hf 57 14 (by omega)]; exact h4.1, h4.2⟩, fun k l hk => ⟨mCr_fr (h5 k l hk).1 (hf 68 _ (by omega)) (fun j _ _ => ⟨hf 69 _ (by omega), hf 70 _ (by omega)⟩), (h5 k l hk).2⟩, ⟨by rw [zup_nei (by omega), zup_eq]; rfl, by simp, zup_eq _ _ _ _, by simp, by simp, by simp⟩, h7⟩
theorem c_X8_takeBack (σ : zM) (S : zSt) (hI : mInv σ S) : zCi mX8_takeBack (fun u => [zr u 57]) σ (fun r σ' => r = (nTb S).2 ∧ mInv σ' (nTb S).1 ∧ zfr 57 79 σ σ') := by
  refine zCi_mk (own := RX8) rfl (by decide +kernel) (fun w => [some (zr w 57)]) (fun _ => rfl) (fun _ => Nat.le_of_ble_eq_true rfl) ?_
  intro Γ h hr
  have hI0 := hI
  obtain ⟨hT, hP, h3, h4, h5, h6, h7⟩ := hI
  have np10 := hP.2.2.2.2.1
  have q3 := hP.2.2.1
  have c1 := q3.1
  have c2 := q3.2.1
  have t1 := h3.1
  have t2 := h3.2
  refine z_raload_n h dX8_takeBack_0 rfl ?_
  refine y_get 15 h dX8_takeBack_1 fX8_127 L57 rfl rfl ?_
  refine z_if_ne h dX8_takeBack_4 (by omega) (fun b4 => ?_) (fun b4 => ?_)
  · refine z_raload_n h dX8_takeBack_10 rfl ?_
    refine z_dup h dX8_takeBack_11 rfl ?_
    refine y_get 15 h dX8_takeBack_12 fX8_127 L57 rfl rfl ?_
    refine z_iconst h dX8_takeBack_15 ?_
    refine z_isub h dX8_takeBack_16 ?_
    refine y_put 15 h dX8_takeBack_17 fX8_127 pX8_15 L57 rfl rfl ?_
    refine z_raload_n h dX8_takeBack_20 rfl ?_
    refine z_getr h dX8_takeBack_21 fX8_40 L57 rfl ?_
    refine z_iconst h dX8_takeBack_24 ?_
    refine z_dup2 h dX8_takeBack_25 rfl rfl ?_
    refine z_iald h dX8_takeBack_26 L68 (by decide) (by omega) ?_
    try simp (disch := omega) only [zup_eq, zup_ne, zup_nei]
    refine z_iconst h dX8_takeBack_27 ?_
    refine z_isub h dX8_takeBack_28 ?_
    refine z_iast h dX8_takeBack_29 L68 (by decide) (by omega) ?_
    refine z_raload_n h dX8_takeBack_30 rfl ?_
    refine y_get 15 h dX8_takeBack_31 fX8_127 L57 rfl rfl ?_
    try simp (disch := omega) only [zup_eq, zup_ne, zup_nei]
    refine z_irI h hr dX8_takeBack_34 ?_
    have hb : nTb S = ((S.1, (S.2.1.1, S.2.1.2.1.dropLast, S.2.1.2.2), S.2.2), (S.2.1.2.1.length : Int) - 1 - S.2.2.1) := if_pos (by omega)
    rw [hb]
    refine ⟨by show _ = (S.2.1.2.1.length : Int) - 1 - S.2.2.1; omega, ?_, zfr_up (zfr_up zfr_rf (by omega) (by omega)) (by omega) (by omega)⟩
    generalize hτ : zup (zup σ 57 15 (σ 57 15 - 1)) 68 0 (σ 68 0 - 1) = τ
    have hf : ∀ c i, ¬ (c = 57 ∧ i = 15) → ¬ (c = 68 ∧ i = 0) → τ c i = σ c i := fun c i z z2 => by
      rw [← hτ]
      by_cases e : c = 57
      · rw [zup_ne (by omega), zup_nei (fun y => z ⟨e, y⟩)]
      · by_cases e2 : c = 68
        · rw [zup_nei (fun y => z2 ⟨e2, y⟩), zup_ne e]
        · rw [zup_ne e2, zup_ne e]
    have f1 : τ 57 15 = σ 57 15 - 1 := by rw [← hτ, zup_ne (by omega), zup_eq]
    have f2 : τ 68 0 = σ 68 0 - 1 := by rw [← hτ, zup_eq]
    have hlen : S.2.1.2.1.dropLast.length = S.2.1.2.1.length - 1 := List.length_dropLast
    refine ⟨mText_fr hT (hf 57 0 (by omega) (by omega)) (fun i => hf 58 i (by omega) (by omega)), mPlan_cr hP (fun c a b i => hf c i (by omega) (by omega)) _ ⟨by rw [f2]; omega, by omega, fun k p hk => ?_⟩ (fun c hc => hP.2.2.2.2.2.2.1 c ((List.dropLast_sublist _).subset hc)), ⟨by show S.2.2.1 ≤ S.2.1.2.1.dropLast.length; omega, by show τ 57 15 = (S.2.1.2.1.dropLast.length : Int) - S.2.2.1; omega⟩, ⟨by rw [hf 57 14 (by omega) (by omega)]; exact h4.1, h4.2⟩, fun k l hk => ⟨mCr_fr (h5 k l hk).1 (hf 68 _ (by omega) (by omega)) (fun j _ _ => ⟨hf 69 _ (by omega) (by omega), hf 70 _ (by omega) (by omega)⟩), (h5 k l hk).2⟩, mNames_fr h6 (fun i => hf 71 i (by omega) (by omega)) (fun i => hf 72 i (by omega) (by omega)), h7⟩
    rw [List.getElem?_dropLast] at hk
    split at hk
    · rw [hf 69 _ (by omega) (by omega), hf 70 _ (by omega) (by omega)]
      exact q3.2.2 k p hk
    · cases hk
  · refine z_bipush h dX8_takeBack_7 (by decide) ?_
    refine z_irI h hr dX8_takeBack_9 ?_
    have hb : nTb S = (S, -2) := if_neg (by omega)
    rw [hb]
    exact ⟨rfl, hI0, zfr_rf⟩
theorem c_X8_keep (σ : zM) (S : zSt) (hI : mInv σ S) : zCi mX8_keep (fun u => [zr u 57]) σ (fun r σ' => r = (nKeep S).2 ∧ mInv σ' (nKeep S).1 ∧ zfr 57 79 σ σ') := by
  refine zCi_mk (own := RX8) rfl (by decide +kernel) (fun w => [some (zr w 57)]) (fun _ => rfl) (fun _ => Nat.le_of_ble_eq_true rfl) ?_
  intro Γ h hr
  have hI0 := hI
  obtain ⟨hT, hP, h3, h4, h5, h6, h7⟩ := hI
  have np10 := hP.2.2.2.2.1
  have q3 := hP.2.2.1
  have c1 := q3.1
  have c2 := q3.2.1
  have t1 := h4.1
  have t2 := h4.2
  refine z_raload_n h dX8_keep_0 rfl ?_
  refine y_get 14 h dX8_keep_1 fX8_124 L57 rfl rfl ?_
  refine z_iconst h dX8_keep_4 ?_
  refine z_icmp_ne h dX8_keep_5 (by omega) (by omega) (fun b5 => ?_) (fun b5 => ?_)
  · refine z_raload_n h dX8_keep_11 rfl ?_
    refine z_dup h dX8_keep_12 rfl ?_
    refine y_get 14 h dX8_keep_13 fX8_124 L57 rfl rfl ?_
    refine z_iconst h dX8_keep_16 ?_
    refine z_iadd h dX8_keep_17 ?_
    refine y_put 14 h dX8_keep_18 fX8_124 pX8_14 L57 rfl rfl ?_
    refine z_raload_n h dX8_keep_21 rfl ?_
    refine z_iconst h dX8_keep_22 ?_
    refine z_iconst h dX8_keep_23 ?_
    refine z_raload_n h dX8_keep_24 rfl ?_
    refine y_get 14 h dX8_keep_25 fX8_124 L57 rfl rfl ?_
    try simp (disch := omega) only [zup_eq, zup_ne, zup_nei]
    refine z_iadd h dX8_keep_28 ?_
    rw [show 1 + (σ 57 14 + 1) = 2 + σ 57 14 by omega]
    refine z_cVv2 h dX8_keep_29 lX8_120 vX8_copyCries rfl L57 (c_X8_copyCries (zup σ 57 14 (σ 57 14 + 1)) 0 (2 + σ 57 14) (by omega) (by omega) (by omega)) rfl (Nat.le_of_ble_eq_true rfl) (by decide) (fun σ1 g1 => ?_)
    have g0 := g1.1
    have f1 : σ1 57 14 = σ 57 14 + 1 := by rw [g0 57 (by omega) (by omega) (by omega), zup_eq]
    have f2 : ∀ c i, ¬ (c = 57 ∧ i = 14) → c ≠ 68 → c ≠ 69 → c ≠ 70 → σ1 c i = σ c i := fun c i z a b d => by
      rw [g0 c a b d]
      by_cases e : c = 57
      · rw [zup_nei (fun y => z ⟨e, y⟩)]
      · rw [zup_ne e]
    have f3 : ∀ (b : Int) l, mCr σ b l → mCr (zup σ 57 14 (σ 57 14 + 1)) b l := fun b l z => mCr_fr z (zup_ne (by omega)) (fun k _ _ => ⟨zup_ne (by omega), zup_ne (by omega)⟩)
    refine z_raload_n h dX8_keep_32 rfl ?_
    refine y_get 14 h dX8_keep_33 fX8_124 L57 rfl rfl ?_
    refine z_irI h hr dX8_keep_36 ?_
    have hb : nKeep S = ((S.1, S.2.1, S.2.2.1, S.2.2.2.1 ++ [S.2.1.2.1], S.2.2.2.2), (S.2.2.2.1.length : Int) + 1) := if_pos (by omega)
    rw [hb]
    refine ⟨by show _ = (S.2.2.2.1.length : Int) + 1; omega, ⟨mText_fr hT (f2 57 0 (by omega) (by omega) (by omega) (by omega)) (fun i => f2 58 i (by omega) (by omega) (by omega) (by omega)), mPlan_fr hP (fun c hc => f2 c _ (by omega) (by omega) (by omega) (by omega)) (fun c k _ _ _ => f2 c _ (by omega) (by omega) (by omega) (by omega)) (mCr_cpx g1 (by omega) (f3 0 _ q3)), ⟨h3.1, by rw [f2 57 15 (by omega) (by omega) (by omega) (by omega)]; exact h3.2⟩, ⟨by rw [f1]; simp; omega, by simp; omega⟩, fun k l hk => ?_, mNames_fr h6 (fun i => f2 71 i (by omega) (by omega) (by omega) (by omega)) (fun i => f2 72 i (by omega) (by omega) (by omega) (by omega)), h7⟩, fun c hc i => f2 c i (by omega) (by omega) (by omega) (by omega)⟩
    have hk : (S.2.2.2.1 ++ [S.2.1.2.1])[k]? = some l := hk
    by_cases e : k < S.2.2.2.1.length
    · rw [List.getElem?_append_left e] at hk
      exact ⟨mCr_cpx g1 (by omega) (f3 _ _ (h5 k l hk).1), (h5 k l hk).2⟩
    · have e2 := (List.getElem?_eq_some_iff.mp hk).1
      simp at e2
      have e3 : k = S.2.2.2.1.length := by omega
      subst e3
      simp at hk
      subst hk
      rw [← t1]
      exact ⟨mCr_cpy g1 (f3 0 _ q3), hP.2.2.2.2.2.2.1⟩
  · refine z_bipush h dX8_keep_8 (by decide) ?_
    refine z_irI h hr dX8_keep_10 ?_
    have hb : nKeep S = (S, -3) := if_neg (by omega)
    rw [hb]
    exact ⟨rfl, hI0, zfr_rf⟩
