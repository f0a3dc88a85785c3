theorem zhush {s : Nat} (hs : s < 256) : zand 255 (zxor (s : Int) (-1)) = ((255 &&& (s ^^^ 4294967295) : Nat) : Int) := zandn (a := 255) (by decide) (by omega)
theorem zhush_b (s : Nat) : (255 &&& (s ^^^ 4294967295)) < 256 ∧ ∀ c, c < 8 → (255 &&& (s ^^^ 4294967295)).testBit c = !s.testBit c := by
  refine ⟨Nat.lt_of_le_of_lt Nat.and_le_left (by decide), fun c hc => ?_⟩
  rw [zandn_bit (by omega)]
  have : (255 : Nat).testBit c = true := by have := bits_0 c hc; simpa using this
  rw [this, Bool.true_and]
theorem c_X8_gainedOf (σ : zM) (P : zP) (hP : mPlan σ 0 P) (c : Nat) (hc : c < P.2.1.length) : zCi mX8_gainedOf (fun u => [zr u 57, zi c]) σ (fun r σ' => r = zGn P c ∧ (0 ≤ r ∧ r ≤ 400) ∧ mGo σ σ') := by
  refine zCi_mk (own := RX8) rfl (by decide +kernel) (fun w => [some (zr w 57), some (zi c), none]) (fun _ => rfl) (fun _ => Nat.le_of_ble_eq_true rfl) ?_
  intro Γ h hr
  have np10 := hP.2.2.2.2.1
  have c2 := hP.2.2.1.2.1
  have w1 : (P.2.1.getD c (0, 0)).1 = zWho P c := rfl
  have w2 : 0 ≤ zWho P c ∧ zWho P c < P.1.length := by
    rw [← w1, List.getD_eq_getElem?_getD, List.getElem?_eq_getElem hc]
    exact hP.2.2.2.2.2.2.1 _ (List.getElem_mem hc)
  have hs : zshl 1 (c : Int) = ((2 ^ c : Nat) : Int) := by rw [zshl_1 (by omega)]; simp
  have hpw := zpow (c := c) (by omega)
  have hbt := zhush_b (2 ^ c)
  refine z_raload_n h dX8_gainedOf_0 rfl ?_
  refine z_cVv0 h dX8_gainedOf_1 lX8_201 vX8_goAsItIs rfl L57 (c_X8_goAsItIs σ P hP) rfl (Nat.le_of_ble_eq_true rfl) (by decide) (fun σ1 g1 => ?_)
  have hP1 := mPlan_go hP g1.1
  have a1 := mCr_at hP1.2.2.1 hc
  rw [w1] at a1
  refine z_raload_n h dX8_gainedOf_4 rfl ?_
  refine z_raload_n h dX8_gainedOf_5 rfl ?_
  refine z_getr h dX8_gainedOf_6 fX8_43 L57 rfl ?_
  refine z_iload_n h dX8_gainedOf_9 rfl ?_
  refine z_iald h dX8_gainedOf_10 L69 (by decide) (by omega) ?_
  rw [a1.1]
  refine z_cVi1 h dX8_gainedOf_11 lX8_214 vX8_timeOf rfl L57 (c_X8_timeOf σ1 (zFn P (pL P) 0 []) P.1.length g1.2.2.2.1 (zWho P c) np10 w2) rfl (Nat.le_of_ble_eq_true rfl) (by decide) (fun v σ2 g2 => ?_)
  obtain ⟨g2, g3, e2⟩ := g2
  rw [e2]
  refine z_ist1_n h dX8_gainedOf_14 (by decide) (zst1_2 rfl) ?_
  refine z_raload_n h dX8_gainedOf_15 rfl ?_
  refine z_sipush h dX8_gainedOf_16 (by decide) ?_
  refine z_iconst h dX8_gainedOf_19 ?_
  refine z_iload_n h dX8_gainedOf_20 rfl ?_
  refine z_ishl h dX8_gainedOf_21 ?_
  rw [hs]
  refine z_iconst h dX8_gainedOf_22 ?_
  refine z_ixor h dX8_gainedOf_23 ?_
  refine z_iand h dX8_gainedOf_24 ?_
  rw [zhush hpw]
  refine y_put 20 h dX8_gainedOf_25 fX8_130 pX8_20 L57 rfl rfl ?_
  refine z_raload_n h dX8_gainedOf_28 rfl ?_
  refine z_sipush h dX8_gainedOf_29 (by decide) ?_
  refine z_cVv1 h dX8_gainedOf_32 lX8_193 vX8_go rfl L57 (c_X8_go (zup σ1 57 20 ((255 &&& (2 ^ c ^^^ 4294967295) : Nat) : Int)) P (mPlan_go hP (mGo_up g1.1 (by omega))) (pL P, 2 ^ c, [], -1) (mMd_0 ⟨by rw [zup_nei (by omega)]; exact g1.2.1.2.2.2.1, pL_ok hP.2.2.2.2⟩ ⟨zup_eq _ _ _ _, hbt.1⟩ hbt.2 (Or.inl ⟨rfl, by rw [zup_nei (by omega)]; exact g1.2.1.2.2.2.2⟩) (by rw [zup_nei (by omega)]; exact g1.2.1.2.1) (by rw [zup_nei (by omega)]; exact g1.2.1.2.2.1)) 199 (by omega)) rfl (Nat.le_of_ble_eq_true rfl) (by decide) (fun σ3 g4 => ?_)
  have g5 := mGo_tr (mGo_up (i := 20) (v := ((255 &&& (2 ^ c ^^^ 4294967295) : Nat) : Int)) g1.1 (by omega)) (mGo_kp g4.1)
  have hP3 := mPlan_go hP g5
  have a3 := mCr_at hP3.2.2.1 hc
  rw [w1] at a3
  refine z_sipush h dX8_gainedOf_35 (by decide) ?_
  refine z_raload_n h dX8_gainedOf_38 rfl ?_
  refine z_raload_n h dX8_gainedOf_39 rfl ?_
  refine z_getr h dX8_gainedOf_40 fX8_43 L57 rfl ?_
  refine z_iload_n h dX8_gainedOf_43 rfl ?_
  refine z_iald h dX8_gainedOf_44 L69 (by decide) (by omega) ?_
  rw [a3.1]
  refine z_cVi1 h dX8_gainedOf_45 lX8_214 vX8_timeOf rfl L57 (c_X8_timeOf σ3 (zFn P (pL P) (2 ^ c) []) P.1.length g4.2.2.1 (zWho P c) np10 w2) rfl (Nat.le_of_ble_eq_true rfl) (by decide) (fun v2 σ4 g6 => ?_)
  obtain ⟨g6, g7, e6⟩ := g6
  rw [e6]
  refine z_iadd h dX8_gainedOf_48 ?_
  refine z_iload_n h dX8_gainedOf_49 rfl ?_
  refine z_isub h dX8_gainedOf_50 ?_
  refine z_irI h hr dX8_gainedOf_51 ?_
  refine ⟨?_, by omega, g5⟩
  unfold zGn
  omega
theorem c_X8_cry (σ : zM) (S : zSt) (hI : mInv σ S) (c w : Int) (hc : zok c) (hw : zok w) : zCi mX8_cry (fun u => [zr u 57, zi c, zi w]) σ (fun r σ' => r = aCry S c w ∧ mInv σ' S ∧ zfr 57 79 σ σ') := by
  refine zCi_mk (own := RX8) rfl (by decide +kernel) (fun w0 => [some (zr w0 57), some (zi c), some (zi w)]) (fun _ => rfl) (fun _ => Nat.le_of_ble_eq_true rfl) ?_
  intro Γ h hr
  have hI0 := hI
  obtain ⟨hT, hP, h3, h4, h5, h6, h7⟩ := hI
  have np10 := hP.2.2.2.2.1
  have q3 := hP.2.2.1
  have c1 := q3.1
  have c2 := q3.2.1
  unfold zok at hc hw
  have bad : ¬ ((0 ≤ c ∧ c < S.2.1.2.1.length) ∧ 0 ≤ w ∧ w ≤ 2) → aCry S c w = -1 := fun z => by
    unfold aCry
    split
    · rw [if_neg (by omega), if_neg (by omega), if_neg (by omega)]
    · rfl
  refine z_iload_n h dX8_cry_0 rfl ?_
  refine z_i2l h dX8_cry_1 (by omega) ?_
  refine z_lconst (x := 0) h dX8_cry_2 (by decide) ?_
  refine z_raload_n h dX8_cry_3 rfl ?_
  refine z_getr h dX8_cry_4 fX8_40 L57 rfl ?_
  refine z_iconst h dX8_cry_7 ?_
  refine z_iald h dX8_cry_8 L68 (by decide) (by omega) ?_
  refine z_iconst h dX8_cry_9 ?_
  refine z_isub h dX8_cry_10 ?_
  refine z_i2l h dX8_cry_11 (by omega) ?_
  refine z_cSi3 h dX8_cry_12 lX8_83 vX8_in (c_X8_in _ c (0) (σ 68 0 - 1) (by unfold zlo; omega) (by unfold zlo; omega) (by unfold zlo; omega)) rfl (Nat.le_of_ble_eq_true rfl) (by decide) (fun v1 σ1 g1 => ?_)
  obtain ⟨g1, e1⟩ := g1
  rw [e1]
  refine z_if_eq h dX8_cry_15 (by omega) (fun b15 => ?_) (fun b15 => ?_)
  · refine z_iconst h dX8_cry_30 ?_
    refine z_irI h hr dX8_cry_31 ?_
    rw [bad (by omega)]
    exact ⟨rfl, hI0, zfr_rf⟩
  · refine z_iload_n h dX8_cry_18 rfl ?_
    refine z_i2l h dX8_cry_19 (by omega) ?_
    refine z_lconst (x := 0) h dX8_cry_20 (by decide) ?_
    refine z_ldc2 (x := 2) h dX8_cry_21 kX8_104 (by decide) ?_
    refine z_cSi3 h dX8_cry_24 lX8_83 vX8_in (c_X8_in _ w (0) (2) (by unfold zlo; omega) (by unfold zlo; omega) (by unfold zlo; omega)) rfl (Nat.le_of_ble_eq_true rfl) (by decide) (fun v2 σ2 g2 => ?_)
    obtain ⟨g2, e2⟩ := g2
    rw [e2]
    refine z_if_ne h dX8_cry_27 (by omega) (fun b27 => ?_) (fun b27 => ?_)
    · have a1 := mCr_at q3 (c := c.toNat) (by omega)
      rw [show ((c.toNat : Nat) : Int) = c by omega] at a1
      have ec : c = ((c.toNat : Nat) : Int) := by omega
      refine z_iload_n h dX8_cry_32 rfl ?_
      refine z_if_ne h dX8_cry_33 (by omega) (fun b33 => ?_) (fun b33 => ?_)
      · refine z_iload_n h dX8_cry_45 rfl ?_
        refine z_iconst h dX8_cry_46 ?_
        refine z_icmp_ne h dX8_cry_47 (by omega) (by omega) (fun b47 => ?_) (fun b47 => ?_)
        · refine z_raload_n h dX8_cry_59 rfl ?_
          refine z_iload_n h dX8_cry_60 rfl ?_
          rw [ec]
          refine z_cVi1 h dX8_cry_61 lX8_217 vX8_gainedOf rfl L57 (c_X8_gainedOf σ S.2.1 hP c.toNat (by omega)) rfl (Nat.le_of_ble_eq_true rfl) (by decide) (fun v3 σ3 g3 => ?_)
          refine z_irI h hr dX8_cry_64 ?_
          unfold aCry
          rw [if_pos (by omega)]
          first
            | (rw [if_pos (by omega)]; exact ⟨a1.1, hI0, zfr_rf⟩)
            | (rw [if_neg (by omega), if_pos (by omega)]; exact ⟨a1.2.1, hI0, zfr_rf⟩)
            | (rw [if_neg (by omega), if_neg (by omega), if_pos (by omega)]; exact ⟨g3.1, mInv_go hI0 g3.2.2, mGo_fr g3.2.2⟩)
        · refine z_raload_n h dX8_cry_50 rfl ?_
          refine z_getr h dX8_cry_51 fX8_46 L57 rfl ?_
          refine z_iload_n h dX8_cry_54 rfl ?_
          refine z_iald h dX8_cry_55 L70 (by decide) (by omega) ?_
          refine z_goto h dX8_cry_56 ?_
          refine z_irI h hr dX8_cry_64 ?_
          unfold aCry
          rw [if_pos (by omega)]
          first
            | (rw [if_pos (by omega)]; exact ⟨a1.1, hI0, zfr_rf⟩)
            | (rw [if_neg (by omega), if_pos (by omega)]; exact ⟨a1.2.1, hI0, zfr_rf⟩)
            | (rw [if_neg (by omega), if_neg (by omega), if_pos (by omega)]; exact ⟨g3.1, mInv_go hI0 g3.2.2, mGo_fr g3.2.2⟩)
      · refine z_raload_n h dX8_cry_36 rfl ?_
        refine z_getr h dX8_cry_37 fX8_43 L57 rfl ?_
        refine z_iload_n h dX8_cry_40 rfl ?_
        refine z_iald h dX8_cry_41 L69 (by decide) (by omega) ?_
        refine z_goto h dX8_cry_42 ?_
        refine z_irI h hr dX8_cry_64 ?_
        unfold aCry
        rw [if_pos (by omega)]
        first
          | (rw [if_pos (by omega)]; exact ⟨a1.1, hI0, zfr_rf⟩)
          | (rw [if_neg (by omega), if_pos (by omega)]; exact ⟨a1.2.1, hI0, zfr_rf⟩)
          | (rw [if_neg (by omega), if_neg (by omega), if_pos (by omega)]; exact ⟨g3.1, mInv_go hI0 g3.2.2, mGo_fr g3.2.2⟩)
    · refine z_iconst h dX8_cry_30 ?_
      refine z_irI h hr dX8_cry_31 ?_
      rw [bad (by omega)]
      exact ⟨rfl, hI0, zfr_rf⟩
theorem c_X8_suspect (σ : zM) (S : zSt) (hI : mInv σ S) : zCi mX8_suspect (fun u => [zr u 57]) σ (fun r σ' => r = (zMs S.2.1 S.2.1.2.1.length).1 ∧ mInv σ' S ∧ zfr 57 79 σ σ') := by
  refine zCi_mk (own := RX8) rfl (by decide +kernel) (fun w => [some (zr w 57), none, none, none, none]) (fun _ => rfl) (fun _ => Nat.le_of_ble_eq_true rfl) ?_
  intro Γ h hr
  have hI0 := hI
  obtain ⟨hT, hP, h3, h4, h5, h6, h7⟩ := hI
  have np10 := hP.2.2.2.2.1
  have q3 := hP.2.2.1
  have c1 := q3.1
  have c2 := q3.2.1
  have L : ∀ (n c : Nat) (σ1 : zM) (b m : Int) (l4 : Option Value), c + n = S.2.1.2.1.length → mGo σ σ1 → ((c = 0 ∧ b = -4 ∧ m = -4) ∨ (0 < c ∧ b = (zMs S.2.1 c).1 ∧ m = (zMs S.2.1 c).2 ∧ 0 ≤ m ∧ m ≤ 400)) → zV Γ σ1 8 [some (zr (zw Γ) 57), some (zi b), some (zi m), some (zi c), l4] [] := by
    intro n
    induction n with
    | zero =>
      intro c σ1 b m l4 j1 j2 j3
      have q := (mPlan_go hP j2).2.2.1.1
      refine z_iload_n h dX8_suspect_8 rfl ?_
      refine z_raload_n h dX8_suspect_9 rfl ?_
      refine z_getr h dX8_suspect_10 fX8_40 L57 rfl ?_
      refine z_iconst h dX8_suspect_13 ?_
      refine z_iald h dX8_suspect_14 L68 (by decide) (by omega) ?_
      refine z_icmp_ge h dX8_suspect_15 (by omega) (by omega) (fun b15 => ?_) (fun b15 => by exfalso; omega)
      refine z_iload_n h dX8_suspect_56 rfl ?_
      refine z_irI h hr dX8_suspect_57 ?_
      refine ⟨?_, mInv_go hI0 j2, mGo_fr j2⟩
      rw [show S.2.1.2.1.length = c by omega]
      rcases j3 with ⟨rfl, rfl, rfl⟩ | ⟨-, rfl, -⟩ <;> rfl
    | succ n ih =>
      intro c σ1 b m l4 j1 j2 j3
      have q := (mPlan_go hP j2).2.2.1.1
      have hz : zMs S.2.1 (c + 1) = if (zMs S.2.1 c).2 < zGn S.2.1 c then ((c : Int), zGn S.2.1 c) else zMs S.2.1 c := rfl
      have hz0 : c = 0 → (zMs S.2.1 c).2 = -1 := fun z => by rw [z]; rfl
      refine z_iload_n h dX8_suspect_8 rfl ?_
      refine z_raload_n h dX8_suspect_9 rfl ?_
      refine z_getr h dX8_suspect_10 fX8_40 L57 rfl ?_
      refine z_iconst h dX8_suspect_13 ?_
      refine z_iald h dX8_suspect_14 L68 (by decide) (by omega) ?_
      refine z_icmp_ge h dX8_suspect_15 (by omega) (by omega) (fun b15 => by exfalso; omega) (fun b15 => ?_)
      refine z_raload_n h dX8_suspect_18 rfl ?_
      refine z_iload_n h dX8_suspect_19 rfl ?_
      refine z_cVi1 h dX8_suspect_20 lX8_217 vX8_gainedOf rfl L57 (c_X8_gainedOf σ1 S.2.1 (mPlan_go hP j2) c (by omega)) rfl (Nat.le_of_ble_eq_true rfl) (by decide) (fun v σ2 j4 => ?_)
      obtain ⟨j4, j5, j6⟩ := j4
      refine z_ist1 h dX8_suspect_23 (by decide) (zst1_4 rfl) ?_
      refine z_iload h dX8_suspect_25 rfl ?_
      refine z_iload_n h dX8_suspect_27 rfl ?_
      refine z_icmp_le h dX8_suspect_28 (by omega) (by omega) (fun b28 => ?_) (fun b28 => ?_)
      · refine z_iload_n h dX8_suspect_35 rfl ?_
        refine z_ist1_n h dX8_suspect_36 (by decide) (zst1_1 rfl) ?_
        refine z_iload h dX8_suspect_37 rfl ?_
        refine z_iload_n h dX8_suspect_39 rfl ?_
        refine z_icmp_le h dX8_suspect_40 (by omega) (by omega) (fun b40 => ?_) (fun b40 => ?_)
        · refine z_iload_n h dX8_suspect_48 rfl ?_
          refine z_ist1_n h dX8_suspect_49 (by decide) (zst1_2 rfl) ?_
          refine z_iinc h dX8_suspect_50 (by decide) rfl (zst1_3 rfl) ?_
          refine z_goto h dX8_suspect_53 ?_
          rw [show (c : Int) + 1 = ((c + 1 : Nat) : Int) by omega]
          first
            | (exfalso; omega)
            | (rw [if_pos (by omega)] at hz; exact ih (c + 1) σ2 _ _ _ (by omega) (mGo_tr j2 j6) (Or.inr ⟨by omega, by rw [hz], by rw [hz]; exact j4, by omega, by omega⟩))
            | (rw [if_neg (by omega)] at hz; exact ih (c + 1) σ2 _ _ _ (by omega) (mGo_tr j2 j6) (Or.inr ⟨by omega, by rw [hz]; omega, by rw [hz]; omega, by omega, by omega⟩))
        · refine z_iload h dX8_suspect_43 rfl ?_
          refine z_goto h dX8_suspect_45 ?_
          refine z_ist1_n h dX8_suspect_49 (by decide) (zst1_2 rfl) ?_
          refine z_iinc h dX8_suspect_50 (by decide) rfl (zst1_3 rfl) ?_
          refine z_goto h dX8_suspect_53 ?_
          rw [show (c : Int) + 1 = ((c + 1 : Nat) : Int) by omega]
          first
            | (exfalso; omega)
            | (rw [if_pos (by omega)] at hz; exact ih (c + 1) σ2 _ _ _ (by omega) (mGo_tr j2 j6) (Or.inr ⟨by omega, by rw [hz], by rw [hz]; exact j4, by omega, by omega⟩))
            | (rw [if_neg (by omega)] at hz; exact ih (c + 1) σ2 _ _ _ (by omega) (mGo_tr j2 j6) (Or.inr ⟨by omega, by rw [hz]; omega, by rw [hz]; omega, by omega, by omega⟩))
      · refine z_iload_n h dX8_suspect_31 rfl ?_
        refine z_goto h dX8_suspect_32 ?_
        refine z_ist1_n h dX8_suspect_36 (by decide) (zst1_1 rfl) ?_
        refine z_iload h dX8_suspect_37 rfl ?_
        refine z_iload_n h dX8_suspect_39 rfl ?_
        refine z_icmp_le h dX8_suspect_40 (by omega) (by omega) (fun b40 => ?_) (fun b40 => ?_)
        · refine z_iload_n h dX8_suspect_48 rfl ?_
          refine z_ist1_n h dX8_suspect_49 (by decide) (zst1_2 rfl) ?_
          refine z_iinc h dX8_suspect_50 (by decide) rfl (zst1_3 rfl) ?_
          refine z_goto h dX8_suspect_53 ?_
          rw [show (c : Int) + 1 = ((c + 1 : Nat) : Int) by omega]
          first
            | (exfalso; omega)
            | (rw [if_pos (by omega)] at hz; exact ih (c + 1) σ2 _ _ _ (by omega) (mGo_tr j2 j6) (Or.inr ⟨by omega, by rw [hz], by rw [hz]; exact j4, by omega, by omega⟩))
            | (rw [if_neg (by omega)] at hz; exact ih (c + 1) σ2 _ _ _ (by omega) (mGo_tr j2 j6) (Or.inr ⟨by omega, by rw [hz]; omega, by rw [hz]; omega, by omega, by omega⟩))
        · refine z_iload h dX8_suspect_43 rfl ?_
          refine z_goto h dX8_suspect_45 ?_
          refine z_ist1_n h dX8_suspect_49 (by decide) (zst1_2 rfl) ?_
          refine z_iinc h dX8_suspect_50 (by decide) rfl (zst1_3 rfl) ?_
          refine z_goto h dX8_suspect_53 ?_
          rw [show (c : Int) + 1 = ((c + 1 : Nat) : Int) by omega]
          first
            | (exfalso; omega)
            | (rw [if_pos (by omega)] at hz; exact ih (c + 1) σ2 _ _ _ (by omega) (mGo_tr j2 j6) (Or.inr ⟨by omega, by rw [hz], by rw [hz]; exact j4, by omega, by omega⟩))
            | (rw [if_neg (by omega)] at hz; exact ih (c + 1) σ2 _ _ _ (by omega) (mGo_tr j2 j6) (Or.inr ⟨by omega, by rw [hz]; omega, by rw [hz]; omega, by omega, by omega⟩))
  refine z_bipush h dX8_suspect_0 (by decide) ?_
  refine z_ist1_n h dX8_suspect_2 (by decide) (zst1_1 rfl) ?_
  refine z_bipush h dX8_suspect_3 (by decide) ?_
  refine z_ist1_n h dX8_suspect_5 (by decide) (zst1_2 rfl) ?_
  refine z_iconst h dX8_suspect_6 ?_
  refine z_ist1_n h dX8_suspect_7 (by decide) (zst1_3 rfl) ?_
  exact L S.2.1.2.1.length 0 σ (-4) (-4) none (by omega) mGo_rf (Or.inl ⟨rfl, rfl, rfl⟩)
theorem c_X8_drawn (σ : zM) (S : zSt) (hI : mInv σ S) (z w : Int) (hz : zok z) (hw : zok w) : zCi mX8_drawn (fun u => [zr u 57, zi z, zi w]) σ (fun r σ' => r = aDrawn S z w ∧ mInv σ' S ∧ zfr 57 79 σ σ') := by
  refine zCi_mk (own := RX8) rfl (by decide +kernel) (fun w0 => [some (zr w0 57), some (zi z), some (zi w)]) (fun _ => rfl) (fun _ => Nat.le_of_ble_eq_true rfl) ?_
  intro Γ h hr
  have hI0 := hI
  obtain ⟨hT, hP, h3, h4, h5, h6, h7⟩ := hI
  have np10 := hP.2.2.2.2.1
  have q3 := hP.2.2.1
  have c1 := q3.1
  have c2 := q3.2.1
  unfold zok at hz hw
  have bad : ¬ (0 ≤ z ∧ z ≤ 9999 ∧ 0 ≤ w ∧ w ≤ 2) → aDrawn S z w = -1 := fun y => if_neg y
  refine z_iload_n h dX8_drawn_0 rfl ?_
  refine z_i2l h dX8_drawn_1 (by omega) ?_
  refine z_lconst (x := 0) h dX8_drawn_2 (by decide) ?_
  refine z_ldc2 (x := 9999) h dX8_drawn_3 kX8_258 (by decide) ?_
  refine z_cSi3 h dX8_drawn_6 lX8_83 vX8_in (c_X8_in _ z (0) (9999) (by unfold zlo; omega) (by unfold zlo; omega) (by unfold zlo; omega)) rfl (Nat.le_of_ble_eq_true rfl) (by decide) (fun v1 σ1 g1 => ?_)
  obtain ⟨g1, e1⟩ := g1
  rw [e1]
  refine z_if_eq h dX8_drawn_9 (by omega) (fun b9 => ?_) (fun b9 => ?_)
  · refine z_iconst h dX8_drawn_24 ?_
    refine z_irI h hr dX8_drawn_25 ?_
    rw [bad (by omega)]
    exact ⟨rfl, hI0, zfr_rf⟩
  · refine z_iload_n h dX8_drawn_12 rfl ?_
    refine z_i2l h dX8_drawn_13 (by omega) ?_
    refine z_lconst (x := 0) h dX8_drawn_14 (by decide) ?_
    refine z_ldc2 (x := 2) h dX8_drawn_15 kX8_104 (by decide) ?_
    refine z_cSi3 h dX8_drawn_18 lX8_83 vX8_in (c_X8_in _ w (0) (2) (by unfold zlo; omega) (by unfold zlo; omega) (by unfold zlo; omega)) rfl (Nat.le_of_ble_eq_true rfl) (by decide) (fun v2 σ2 g2 => ?_)
    obtain ⟨g2, e2⟩ := g2
    rw [e2]
    refine z_if_ne h dX8_drawn_21 (by omega) (fun b21 => ?_) (fun b21 => ?_)
    · refine z_raload_n h dX8_drawn_26 rfl ?_
      refine z_cVv0 h dX8_drawn_27 lX8_190 vX8_asItIs rfl L57 (c_X8_asItIs σ S.2.1 hP) rfl (Nat.le_of_ble_eq_true rfl) (by decide) (fun σ3 g3 => ?_)
      refine z_raload_n h dX8_drawn_30 rfl ?_
      refine z_iload_n h dX8_drawn_31 rfl ?_
      refine y_put 26 h dX8_drawn_32 fX8_142 pX8_26 L57 rfl rfl ?_
      refine z_raload_n h dX8_drawn_35 rfl ?_
      refine z_sipush h dX8_drawn_36 (by decide) ?_
      refine z_cVv1 h dX8_drawn_39 lX8_193 vX8_go rfl L57 (c_X8_go (zup σ3 57 26 z) S.2.1 (mPlan_go hP (mGo_up g3.1 (by omega))) (pL S.2.1, 0, [], z) (mMd_0 (hd := 255) ⟨by rw [zup_nei (by omega)]; exact g3.2.2.2.2.1, pL_ok hP.2.2.2.2⟩ ⟨by rw [zup_nei (by omega)]; exact g3.2.1, by decide⟩ bits_0 (Or.inr ⟨by omega, by omega, zup_eq _ _ _ _⟩) (by rw [zup_nei (by omega)]; exact g3.2.2.1) (by rw [zup_nei (by omega)]; exact g3.2.2.2.1)) 199 (by omega)) rfl (Nat.le_of_ble_eq_true rfl) (by decide) (fun σ4 g4 => ?_)
      have g5 := mGo_tr (mGo_up (i := 26) (v := z) g3.1 (by omega)) (mGo_kp g4.1)
      have hP3 := mPlan_go hP g5
      refine z_iload_n h dX8_drawn_42 rfl ?_
      refine z_if_ne h dX8_drawn_43 (by omega) (fun b43 => ?_) (fun b43 => ?_)
      · refine z_iload_n h dX8_drawn_54 rfl ?_
        refine z_iconst h dX8_drawn_55 ?_
        refine z_icmp_ne h dX8_drawn_56 (by omega) (by omega) (fun b56 => ?_) (fun b56 => ?_)
        · refine z_raload_n h dX8_drawn_66 rfl ?_
          refine z_cVi0 h dX8_drawn_67 lX8_211 vX8_unfair rfl L57 (c_X8_unfair σ4 S.2.1 hP3 _ _ g4.2.2.1) rfl (Nat.le_of_ble_eq_true rfl) (by decide) (fun x σ5 g6 => ?_)
          obtain ⟨g6, e6⟩ := g6
          rw [e6]
          refine z_irI h hr dX8_drawn_70 ?_
          refine ⟨?_, mInv_go hI0 g5, mGo_fr g5⟩
          unfold aDrawn
          rw [if_pos (by omega)]
          first
            | (rw [if_pos (by omega)]; exact g6)
            | (rw [if_neg (by omega), if_pos (by omega)]; exact g4.2.2.2)
            | (rw [if_neg (by omega), if_neg (by omega)]; exact g6)
        · refine z_raload_n h dX8_drawn_59 rfl ?_
          refine y_get 31 h dX8_drawn_60 fX8_171 L57 rfl rfl ?_
          refine z_goto h dX8_drawn_63 ?_
          refine z_irI h hr dX8_drawn_70 ?_
          refine ⟨?_, mInv_go hI0 g5, mGo_fr g5⟩
          unfold aDrawn
          rw [if_pos (by omega)]
          first
            | (rw [if_pos (by omega)]; exact g6)
            | (rw [if_neg (by omega), if_pos (by omega)]; exact g4.2.2.2)
            | (rw [if_neg (by omega), if_neg (by omega)]; exact g6)
      · refine z_raload_n h dX8_drawn_46 rfl ?_
        refine z_iconst h dX8_drawn_47 ?_
        refine z_cVi1 h dX8_drawn_48 lX8_208 vX8_howMany rfl L57 (c_X8_howMany σ4 S.2.1 hP3 _ _ g4.2.2.1 0 (by omega)) rfl (Nat.le_of_ble_eq_true rfl) (by decide) (fun x σ5 g6 => ?_)
        obtain ⟨g6, e6⟩ := g6
        rw [e6]
        refine z_goto h dX8_drawn_51 ?_
        refine z_irI h hr dX8_drawn_70 ?_
        refine ⟨?_, mInv_go hI0 g5, mGo_fr g5⟩
        unfold aDrawn
        rw [if_pos (by omega)]
        first
          | (rw [if_pos (by omega)]; exact g6)
          | (rw [if_neg (by omega), if_pos (by omega)]; exact g4.2.2.2)
          | (rw [if_neg (by omega), if_neg (by omega)]; exact g6)
    · refine z_iconst h dX8_drawn_24 ?_
      refine z_irI h hr dX8_drawn_25 ?_
      rw [bad (by omega)]
      exact ⟨rfl, hI0, zfr_rf⟩
theorem c_X8_again (σ : zM) (S : zSt) (hI : mInv σ S) (i w : Int) (hi : zok i) (hw : zok w) : zCi mX8_again (fun u => [zr u 57, zi i, zi w]) σ (fun r σ' => r = aAgain S i w ∧ mInv σ' S ∧ zfr 57 79 σ σ') := by
  refine zCi_mk (own := RX8) rfl (by decide +kernel) (fun w0 => [some (zr w0 57), some (zi i), some (zi w), none, none, none, none]) (fun _ => rfl) (fun _ => Nat.le_of_ble_eq_true rfl) ?_
  intro Γ h hr
  have hI0 := hI
  obtain ⟨hT, hP, h3, h4, h5, h6, h7⟩ := hI
  have np10 := hP.2.2.2.2.1
  have q3 := hP.2.2.1
  have c1 := q3.1
  have c2 := q3.2.1
  unfold zok at hw
  have bad : ¬ ((0 ≤ i ∧ i < S.2.1.1.length) ∧ 0 ≤ w ∧ w ≤ 1) → aAgain S i w = -1 := fun y => if_neg y
  have pl := pL_ok hP.2.2.2.2
  have L : ∀ (n x : Nat) (σ1 : zM) (own : Int), x + n = 100 → (0 ≤ i ∧ i < S.2.1.1.length) ∧ 0 ≤ w ∧ w ≤ 1 → own = zTm (zFn S.2.1 (pL S.2.1) 0 []) i → mGo σ σ1 → (σ1 57 20 = 255 ∧ σ1 57 21 = i ∧ σ1 57 23 = -4 ∧ σ1 57 25 = pL S.2.1 ∧ σ1 57 26 = -4) → (-4 ≤ (zAg S.2.1 i x).1 ∧ (zAg S.2.1 i x).1 ≤ 100) → (0 ≤ (zAg S.2.1 i x).2 ∧ (zAg S.2.1 i x).2 ≤ 200) → zV Γ σ1 45 [some (zr (zw Γ) 57), some (zi i), some (zi w), some (zi own), some (zi (zAg S.2.1 i x).1), some (zi (zAg S.2.1 i x).2), some (zi x)] [] := by
    intro n
    induction n with
    | zero =>
      intro x σ1 own j1 j2 j3 j4 j5 j6 j7
      have e : x = 100 := by omega
      subst e
      have ha : aAgain S i w = (if (zAg S.2.1 i 100).1 < 0 then -4 else if w = 0 then (zAg S.2.1 i 100).1 else zTm (zFn S.2.1 (pL S.2.1) 0 []) i - (zAg S.2.1 i 100).2) := if_pos j2
      refine z_iload h dX8_again_45 rfl ?_
      refine z_bipush h dX8_again_47 (by decide) ?_
      refine z_icmp_ge h dX8_again_49 (by omega) (by omega) (fun b49 => ?_) (fun b49 => by exfalso; omega)
      refine z_iload h dX8_again_112 rfl ?_
      refine z_if_ge h dX8_again_114 (by omega) (fun b114 => ?_) (fun b114 => ?_)
      · refine z_iload_n h dX8_again_122 rfl ?_
        refine z_if_ne h dX8_again_123 (by omega) (fun b123 => ?_) (fun b123 => ?_)
        · refine z_iload_n h dX8_again_131 rfl ?_
          refine z_iload h dX8_again_132 rfl ?_
          refine z_isub h dX8_again_134 ?_
          refine z_irI h hr dX8_again_135 ?_
          refine ⟨?_, mInv_go hI0 j4, mGo_fr j4⟩
          rw [ha]
          first
            | (rw [if_pos (by omega)]; done)
            | (rw [if_neg (by omega), if_pos (by omega)]; done)
            | (rw [if_neg (by omega), if_neg (by omega), j3]; done)
        · refine z_iload h dX8_again_126 rfl ?_
          refine z_goto h dX8_again_128 ?_
          refine z_irI h hr dX8_again_135 ?_
          refine ⟨?_, mInv_go hI0 j4, mGo_fr j4⟩
          rw [ha]
          first
            | (rw [if_pos (by omega)]; done)
            | (rw [if_neg (by omega), if_pos (by omega)]; done)
            | (rw [if_neg (by omega), if_neg (by omega), j3]; done)
      · refine z_bipush h dX8_again_117 (by decide) ?_
        refine z_goto h dX8_again_119 ?_
        refine z_irI h hr dX8_again_135 ?_
        refine ⟨?_, mInv_go hI0 j4, mGo_fr j4⟩
        rw [ha]
        first
          | (rw [if_pos (by omega)]; done)
          | (rw [if_neg (by omega), if_pos (by omega)]; done)
          | (rw [if_neg (by omega), if_neg (by omega), j3]; done)
    | succ n ih =>
      intro x σ1 own j1 j2 j3 j4 j5 j6 j7
      have hz : zAg S.2.1 i (x + 1) = if zTm (zFn S.2.1 (pL S.2.1) 0 [(i, (x : Int))]) i < (zAg S.2.1 i x).2 then ((x : Int), zTm (zFn S.2.1 (pL S.2.1) 0 [(i, (x : Int))]) i) else zAg S.2.1 i x := rfl
      refine z_iload h dX8_again_45 rfl ?_
      refine z_bipush h dX8_again_47 (by decide) ?_
      refine z_icmp_ge h dX8_again_49 (by omega) (by omega) (fun b49 => by exfalso; omega) (fun b49 => ?_)
      refine z_raload_n h dX8_again_52 rfl ?_
      refine z_iload h dX8_again_53 rfl ?_
      refine y_put 22 h dX8_again_55 fX8_161 pX8_22 L57 rfl rfl ?_
      refine z_raload_n h dX8_again_58 rfl ?_
      refine z_sipush h dX8_again_59 (by decide) ?_
      refine z_cVv1 h dX8_again_62 lX8_193 vX8_go rfl L57 (c_X8_go (zup σ1 57 22 x) S.2.1 (mPlan_go hP (mGo_up j4 (by omega))) (pL S.2.1, 0, [(i, (x : Int))], -1) (mMd_1 (hd := 255) ⟨by rw [zup_nei (by omega)]; exact j5.2.2.2.1, pl⟩ ⟨by rw [zup_nei (by omega)]; exact j5.1, by decide⟩ bits_0 (Or.inl ⟨rfl, by rw [zup_nei (by omega)]; exact j5.2.2.2.2⟩) ⟨by rw [zup_nei (by omega)]; exact j5.2.1, by omega⟩ ⟨zup_eq _ _ _ _, by omega⟩ (by rw [zup_nei (by omega)]; exact j5.2.2.1)) 199 (by omega)) rfl (Nat.le_of_ble_eq_true rfl) (by decide) (fun σ2 k1 => ?_)
      have k2 := mGo_tr (mGo_up (i := 22) (v := x) j4 (by omega)) (mGo_kp k1.1)
      have k3 : ∀ q : Int, q ≠ 28 → q ≠ 31 → q ≠ 22 → σ2 57 q = σ1 57 q := fun q a b c => by rw [k1.1.2 q a b, zup_nei c]
      have k4 := k1.2.2.1
      refine z_raload_n h dX8_again_65 rfl ?_
      refine z_iload_n h dX8_again_66 rfl ?_
      refine z_cVi1 h dX8_again_67 lX8_214 vX8_timeOf rfl L57 (c_X8_timeOf σ2 (zFn S.2.1 (pL S.2.1) 0 [(i, (x : Int))]) S.2.1.1.length k4 i np10 j2.1) rfl (Nat.le_of_ble_eq_true rfl) (by decide) (fun v σ3 k5 => ?_)
      obtain ⟨k5, k6, e5⟩ := k5
      rw [e5]
      refine z_iload h dX8_again_70 rfl ?_
      refine z_icmp_ge h dX8_again_72 (by omega) (by omega) (fun b72 => ?_) (fun b72 => ?_)
      · refine z_iload h dX8_again_80 rfl ?_
        refine z_ist1 h dX8_again_82 (by decide) (zst1_4 rfl) ?_
        refine z_raload_n h dX8_again_84 rfl ?_
        refine z_iload_n h dX8_again_85 rfl ?_
        refine z_cVi1 h dX8_again_86 lX8_214 vX8_timeOf rfl L57 (c_X8_timeOf σ2 (zFn S.2.1 (pL S.2.1) 0 [(i, (x : Int))]) S.2.1.1.length k4 i np10 j2.1) rfl (Nat.le_of_ble_eq_true rfl) (by decide) (fun v' σ3' k7 => ?_)
        obtain ⟨k7, k8, e7⟩ := k7
        rw [e7]
        refine z_iload h dX8_again_89 rfl ?_
        refine z_icmp_ge h dX8_again_91 (by omega) (by omega) (fun b91 => ?_) (fun b91 => ?_)
        · refine z_iload h dX8_again_102 rfl ?_
          refine z_ist1 h dX8_again_104 (by decide) (zst1_5 rfl) ?_
          refine z_iinc h dX8_again_106 (by decide) rfl (zst1_6 rfl) ?_
          refine z_goto h dX8_again_109 ?_
          have k11 : σ2 57 20 = 255 ∧ σ2 57 21 = i ∧ σ2 57 23 = -4 ∧ σ2 57 25 = pL S.2.1 ∧ σ2 57 26 = -4 := by
            rw [k3 20 (by omega) (by omega) (by omega), k3 21 (by omega) (by omega) (by omega), k3 23 (by omega) (by omega) (by omega), k3 25 (by omega) (by omega) (by omega), k3 26 (by omega) (by omega) (by omega)]
            exact j5
          rw [show (x : Int) + 1 = ((x + 1 : Nat) : Int) by omega]
          have := ih (x + 1) σ2 own (by omega) j2 j3 k2 k11
          first
            | (exfalso; omega)
            | (rw [if_pos (by omega)] at hz; rw [hz] at this; rw [k9]; exact this (by constructor <;> show _ ≤ _ <;> omega) (by constructor <;> show _ ≤ _ <;> omega))
            | (rw [if_neg (by omega)] at hz; rw [hz] at this; exact this j6 j7)
        · refine z_raload_n h dX8_again_94 rfl ?_
          refine z_iload_n h dX8_again_95 rfl ?_
          refine z_cVi1 h dX8_again_96 lX8_214 vX8_timeOf rfl L57 (c_X8_timeOf σ2 (zFn S.2.1 (pL S.2.1) 0 [(i, (x : Int))]) S.2.1.1.length k4 i np10 j2.1) rfl (Nat.le_of_ble_eq_true rfl) (by decide) (fun v'' σ3'' k9 => ?_)
          obtain ⟨k9, k10, e9⟩ := k9
          rw [e9]
          refine z_goto h dX8_again_99 ?_
          refine z_ist1 h dX8_again_104 (by decide) (zst1_5 rfl) ?_
          refine z_iinc h dX8_again_106 (by decide) rfl (zst1_6 rfl) ?_
          refine z_goto h dX8_again_109 ?_
          have k11 : σ2 57 20 = 255 ∧ σ2 57 21 = i ∧ σ2 57 23 = -4 ∧ σ2 57 25 = pL S.2.1 ∧ σ2 57 26 = -4 := by
            rw [k3 20 (by omega) (by omega) (by omega), k3 21 (by omega) (by omega) (by omega), k3 23 (by omega) (by omega) (by omega), k3 25 (by omega) (by omega) (by omega), k3 26 (by omega) (by omega) (by omega)]
            exact j5
          rw [show (x : Int) + 1 = ((x + 1 : Nat) : Int) by omega]
          have := ih (x + 1) σ2 own (by omega) j2 j3 k2 k11
          first
            | (exfalso; omega)
            | (rw [if_pos (by omega)] at hz; rw [hz] at this; rw [k9]; exact this (by constructor <;> show _ ≤ _ <;> omega) (by constructor <;> show _ ≤ _ <;> omega))
            | (rw [if_neg (by omega)] at hz; rw [hz] at this; exact this j6 j7)
      · refine z_iload h dX8_again_75 rfl ?_
        refine z_goto h dX8_again_77 ?_
        refine z_ist1 h dX8_again_82 (by decide) (zst1_4 rfl) ?_
        refine z_raload_n h dX8_again_84 rfl ?_
        refine z_iload_n h dX8_again_85 rfl ?_
        refine z_cVi1 h dX8_again_86 lX8_214 vX8_timeOf rfl L57 (c_X8_timeOf σ2 (zFn S.2.1 (pL S.2.1) 0 [(i, (x : Int))]) S.2.1.1.length k4 i np10 j2.1) rfl (Nat.le_of_ble_eq_true rfl) (by decide) (fun v' σ3' k7 => ?_)
        obtain ⟨k7, k8, e7⟩ := k7
        rw [e7]
        refine z_iload h dX8_again_89 rfl ?_
        refine z_icmp_ge h dX8_again_91 (by omega) (by omega) (fun b91 => ?_) (fun b91 => ?_)
        · refine z_iload h dX8_again_102 rfl ?_
          refine z_ist1 h dX8_again_104 (by decide) (zst1_5 rfl) ?_
          refine z_iinc h dX8_again_106 (by decide) rfl (zst1_6 rfl) ?_
          refine z_goto h dX8_again_109 ?_
          have k11 : σ2 57 20 = 255 ∧ σ2 57 21 = i ∧ σ2 57 23 = -4 ∧ σ2 57 25 = pL S.2.1 ∧ σ2 57 26 = -4 := by
            rw [k3 20 (by omega) (by omega) (by omega), k3 21 (by omega) (by omega) (by omega), k3 23 (by omega) (by omega) (by omega), k3 25 (by omega) (by omega) (by omega), k3 26 (by omega) (by omega) (by omega)]
            exact j5
          rw [show (x : Int) + 1 = ((x + 1 : Nat) : Int) by omega]
          have := ih (x + 1) σ2 own (by omega) j2 j3 k2 k11
          first
            | (exfalso; omega)
            | (rw [if_pos (by omega)] at hz; rw [hz] at this; rw [k9]; exact this (by constructor <;> show _ ≤ _ <;> omega) (by constructor <;> show _ ≤ _ <;> omega))
            | (rw [if_neg (by omega)] at hz; rw [hz] at this; exact this j6 j7)
        · refine z_raload_n h dX8_again_94 rfl ?_
          refine z_iload_n h dX8_again_95 rfl ?_
          refine z_cVi1 h dX8_again_96 lX8_214 vX8_timeOf rfl L57 (c_X8_timeOf σ2 (zFn S.2.1 (pL S.2.1) 0 [(i, (x : Int))]) S.2.1.1.length k4 i np10 j2.1) rfl (Nat.le_of_ble_eq_true rfl) (by decide) (fun v'' σ3'' k9 => ?_)
          obtain ⟨k9, k10, e9⟩ := k9
          rw [e9]
          refine z_goto h dX8_again_99 ?_
          refine z_ist1 h dX8_again_104 (by decide) (zst1_5 rfl) ?_
          refine z_iinc h dX8_again_106 (by decide) rfl (zst1_6 rfl) ?_
          refine z_goto h dX8_again_109 ?_
          have k11 : σ2 57 20 = 255 ∧ σ2 57 21 = i ∧ σ2 57 23 = -4 ∧ σ2 57 25 = pL S.2.1 ∧ σ2 57 26 = -4 := by
            rw [k3 20 (by omega) (by omega) (by omega), k3 21 (by omega) (by omega) (by omega), k3 23 (by omega) (by omega) (by omega), k3 25 (by omega) (by omega) (by omega), k3 26 (by omega) (by omega) (by omega)]
            exact j5
          rw [show (x : Int) + 1 = ((x + 1 : Nat) : Int) by omega]
          have := ih (x + 1) σ2 own (by omega) j2 j3 k2 k11
          first
            | (exfalso; omega)
            | (rw [if_pos (by omega)] at hz; rw [hz] at this; rw [k9]; exact this (by constructor <;> show _ ≤ _ <;> omega) (by constructor <;> show _ ≤ _ <;> omega))
            | (rw [if_neg (by omega)] at hz; rw [hz] at this; exact this j6 j7)
  refine z_raload_n h dX8_again_0 rfl ?_
  refine z_iload_n h dX8_again_1 rfl ?_
  refine z_cVi1 h dX8_again_2 lX8_196 vX8_isPerson rfl L57 (c_X8_isPerson σ S.2.1 hP i hi) rfl (Nat.le_of_ble_eq_true rfl) (by decide) (fun v σ1 g1 => ?_)
  obtain ⟨g1, e1⟩ := g1
  rw [e1]
  refine z_if_eq h dX8_again_5 (by omega) (fun b5 => ?_) (fun b5 => ?_)
  · refine z_iconst h dX8_again_18 ?_
    refine z_irI h hr dX8_again_19 ?_
    rw [bad (by omega)]
    exact ⟨rfl, hI0, zfr_rf⟩
  · refine z_iload_n h dX8_again_8 rfl ?_
    refine z_i2l h dX8_again_9 (by omega) ?_
    refine z_lconst (x := 0) h dX8_again_10 (by decide) ?_
    refine z_lconst (x := 1) h dX8_again_11 (by decide) ?_
    refine z_cSi3 h dX8_again_12 lX8_83 vX8_in (c_X8_in _ w (0) (1) (by unfold zlo; omega) (by unfold zlo; omega) (by unfold zlo; omega)) rfl (Nat.le_of_ble_eq_true rfl) (by decide) (fun v2 σ2 g2 => ?_)
    obtain ⟨g2, e2⟩ := g2
    rw [e2]
    refine z_if_ne h dX8_again_15 (by omega) (fun b15 => ?_) (fun b15 => ?_)
    · refine z_raload_n h dX8_again_20 rfl ?_
      refine z_cVv0 h dX8_again_21 lX8_201 vX8_goAsItIs rfl L57 (c_X8_goAsItIs σ S.2.1 hP) rfl (Nat.le_of_ble_eq_true rfl) (by decide) (fun σ3 g3 => ?_)
      refine z_raload_n h dX8_again_24 rfl ?_
      refine z_iload_n h dX8_again_25 rfl ?_
      refine z_cVi1 h dX8_again_26 lX8_214 vX8_timeOf rfl L57 (c_X8_timeOf σ3 (zFn S.2.1 (pL S.2.1) 0 []) S.2.1.1.length g3.2.2.2.1 i np10 (by omega)) rfl (Nat.le_of_ble_eq_true rfl) (by decide) (fun v3 σ4 g4 => ?_)
      obtain ⟨g4, g5, e4⟩ := g4
      rw [e4]
      refine z_ist1_n h dX8_again_29 (by decide) (zst1_3 rfl) ?_
      refine z_bipush h dX8_again_30 (by decide) ?_
      refine z_ist1 h dX8_again_32 (by decide) (zst1_4 rfl) ?_
      refine z_iload_n h dX8_again_34 rfl ?_
      refine z_ist1 h dX8_again_35 (by decide) (zst1_5 rfl) ?_
      refine z_raload_n h dX8_again_37 rfl ?_
      refine z_iload_n h dX8_again_38 rfl ?_
      refine y_put 21 h dX8_again_39 fX8_133 pX8_21 L57 rfl rfl ?_
      refine z_iconst h dX8_again_42 ?_
      refine z_ist1 h dX8_again_43 (by decide) (zst1_6 rfl) ?_
      have := L 100 0 (zup σ3 57 21 i) v3 (by omega) (by omega) g4 (mGo_up g3.1 (by omega)) ⟨by rw [zup_nei (by omega)]; exact g3.2.1.1, zup_eq _ _ _ _, by rw [zup_nei (by omega)]; exact g3.2.1.2.2.1, by rw [zup_nei (by omega)]; exact g3.2.1.2.2.2.1, by rw [zup_nei (by omega)]; exact g3.2.1.2.2.2.2⟩ (by simp [zAg]) (by show 0 ≤ zTm _ i ∧ zTm _ i ≤ 200; omega)
      rw [show (zAg S.2.1 i 0) = (-4, zTm (zFn S.2.1 (pL S.2.1) 0 []) i) from rfl, ← g4] at this
      exact this
    · refine z_iconst h dX8_again_18 ?_
      refine z_irI h hr dX8_again_19 ?_
      rw [bad (by omega)]
      exact ⟨rfl, hI0, zfr_rf⟩
