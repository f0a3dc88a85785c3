theorem nCnt_z (f : Nat → Bool) : ∀ m, (nCnt f m).1 = 0 → (nCnt f m).2 = -4
  | 0 => fun _ => rfl
  | m + 1 => by
    have hg := nCnt_ge f m
    unfold nCnt
    split
    · intro z
      have z : (nCnt f m).1 + 1 = 0 := z
      omega
    · exact nCnt_z f m
theorem nCnt_s (f : Nat → Bool) (N : Nat) : nCnt f N = ((nCnt f N).1 + 0, if (nCnt f N).1 = 0 then -4 else (nCnt f N).2) := by
  by_cases e : (nCnt f N).1 = 0
  · rw [if_pos e, Int.add_zero]
    conv => lhs; rw [← Prod.eta (nCnt f N)]
    rw [nCnt_z f N e]
  · rw [if_neg e, Int.add_zero]
theorem c_X8_fits (σ : zM) (S : zSt) (hI : mInv σ S) (w : Int) (hw : zok w) : zCi mX8_fits (fun u => [zr u 57, zi w]) σ (fun r σ' => r = aFits S w ∧ mInv σ' S ∧ zfr 57 79 σ σ') := by
  refine zCi_mk (own := RX8) rfl (by decide +kernel) (fun w0 => [some (zr w0 57), some (zi w), none, none, none, none]) (fun _ => rfl) (fun _ => Nat.le_of_ble_eq_true rfl) ?_
  intro Γ h hr
  have hI0 := hI
  obtain ⟨hT, hP, h3, h4, h5, h6, h7⟩ := hI
  have np10 := hP.2.2.2.2.1
  have q3 := hP.2.2.1
  have c1 := q3.1
  have c2 := q3.2.1
  unfold zok at hw
  have s1 := h6.1
  have s2 := h6.2.1
  have s3 := h6.2.2.1
  have s4 := h6.2.2.2.1
  obtain ⟨N, hN⟩ : ∃ N, N = 2 ^ S.2.2.2.2.2.length := ⟨_, rfl⟩
  have hpw : N ≤ 512 := by rw [hN]; exact Nat.pow_le_pow_right (n := 2) (by decide) s4
  have hs : zshl 1 (S.2.2.2.2.2.length : Int) = (N : Int) := by rw [zshl_1 (by omega), hN]; simp
  have L : ∀ (k : Nat) (n first : Int) (l5 : Option Value), (0 ≤ w ∧ w ≤ 1) ∧ ¬ (S.2.2.2.2.2.length = 0 ∨ S.2.2.2.2.2.length < S.2.2.2.2.1.length) → k ≤ N → nCnt (nFit S.2.2.2.2.1 S.2.2.2.2.2) N = ((nCnt (nFit S.2.2.2.2.1 S.2.2.2.2.2) k).1 + n, if (nCnt (nFit S.2.2.2.2.1 S.2.2.2.2.2) k).1 = 0 then first else (nCnt (nFit S.2.2.2.2.1 S.2.2.2.2.2) k).2) → zV Γ σ 56 [some (zr (zw Γ) 57), some (zi w), some (zi n), some (zi first), some (zi ((k : Int) - 1)), l5] [] := by
    intro k
    induction k with
    | zero =>
      intro n first l5 g1 g2 g3
      have g3 : nCnt (nFit S.2.2.2.2.1 S.2.2.2.2.2) N = (n, first) := by
        rw [g3]
        show (0 + n, if (0 : Int) = 0 then first else _) = _
        rw [if_pos rfl, Int.zero_add]
      have ha : aFits S w = (if w = 0 then n else first) := by
        unfold aFits
        rw [if_pos g1.1, if_neg g1.2, ← hN, g3]
      refine z_iload h dX8_fits_56 rfl ?_
      refine z_if_lt h dX8_fits_58 (by omega) (fun b58 => ?_) (fun b58 => by exfalso; omega)
      refine z_iload_n h dX8_fits_100 rfl ?_
      refine z_if_ne h dX8_fits_101 (by omega) (fun b101 => ?_) (fun b101 => ?_)
      · refine z_iload_n h dX8_fits_108 rfl ?_
        refine z_irI h hr dX8_fits_109 ?_
        refine ⟨?_, hI0, zfr_rf⟩
        rw [ha]
        first
          | (rw [if_pos (by omega)]; done)
          | (rw [if_neg (by omega)]; done)
      · refine z_iload_n h dX8_fits_104 rfl ?_
        refine z_goto h dX8_fits_105 ?_
        refine z_irI h hr dX8_fits_109 ?_
        refine ⟨?_, hI0, zfr_rf⟩
        rw [ha]
        first
          | (rw [if_pos (by omega)]; done)
          | (rw [if_neg (by omega)]; done)
    | succ k ih =>
      intro n first l5 g1 g2 g3
      have g4 := nCnt_dn g3
      rw [show ((k + 1 : Nat) : Int) - 1 = k by omega]
      refine z_iload h dX8_fits_56 rfl ?_
      refine z_if_lt h dX8_fits_58 (by omega) (fun b58 => by exfalso; omega) (fun b58 => ?_)
      refine z_raload_n h dX8_fits_61 rfl ?_
      refine z_iload h dX8_fits_62 rfl ?_
      refine z_cVi1 h dX8_fits_64 lX8_255 vX8_isFit rfl L57 (c_X8_isFit σ _ _ h6 (by omega) k (by omega)) rfl (Nat.le_of_ble_eq_true rfl) (by decide) (fun v σ1 j1 => ?_)
      obtain ⟨j1, e1⟩ := j1
      rw [e1]
      refine z_ist1 h dX8_fits_67 (by decide) (zst1_5 rfl) ?_
      refine z_iload_n h dX8_fits_69 rfl ?_
      refine z_iload h dX8_fits_70 rfl ?_
      refine z_if_eq h dX8_fits_72 (by omega) (fun b72 => ?_) (fun b72 => ?_)
      · refine z_iconst h dX8_fits_79 ?_
        refine z_iadd h dX8_fits_80 ?_
        refine z_ist1_n h dX8_fits_81 (by decide) (zst1_2 rfl) ?_
        refine z_iload h dX8_fits_82 rfl ?_
        refine z_if_eq h dX8_fits_84 (by omega) (fun b84 => ?_) (fun b84 => ?_)
        · refine z_iload_n h dX8_fits_92 rfl ?_
          refine z_ist1_n h dX8_fits_93 (by decide) (zst1_3 rfl) ?_
          refine z_iinc h dX8_fits_94 (by decide) rfl (zst1_4 rfl) ?_
          refine z_goto h dX8_fits_97 ?_
          rw [show (k : Int) + -1 = (k : Int) - 1 by omega]
          rcases j1 with ⟨j1, j2⟩ | ⟨j1, j2⟩
          · first
              | (exfalso; omega)
              | (rw [if_pos j2, if_pos j2] at g4
                 exact ih (n + 1) k _ g1 (by omega) g4)
          · first
              | (exfalso; omega)
              | (rw [if_neg (show ¬ nFit S.2.2.2.2.1 S.2.2.2.2.2 k = true by rw [j2]; decide), if_neg (show ¬ nFit S.2.2.2.2.1 S.2.2.2.2.2 k = true by rw [j2]; decide)] at g4
                 rw [show n + 0 = n by omega]
                 exact ih n first _ g1 (by omega) g4)
        · refine z_iload h dX8_fits_87 rfl ?_
          refine z_goto h dX8_fits_89 ?_
          refine z_ist1_n h dX8_fits_93 (by decide) (zst1_3 rfl) ?_
          refine z_iinc h dX8_fits_94 (by decide) rfl (zst1_4 rfl) ?_
          refine z_goto h dX8_fits_97 ?_
          rw [show (k : Int) + -1 = (k : Int) - 1 by omega]
          rcases j1 with ⟨j1, j2⟩ | ⟨j1, j2⟩
          · first
              | (exfalso; omega)
              | (rw [if_pos j2, if_pos j2] at g4
                 exact ih (n + 1) k _ g1 (by omega) g4)
          · first
              | (exfalso; omega)
              | (rw [if_neg (show ¬ nFit S.2.2.2.2.1 S.2.2.2.2.2 k = true by rw [j2]; decide), if_neg (show ¬ nFit S.2.2.2.2.1 S.2.2.2.2.2 k = true by rw [j2]; decide)] at g4
                 rw [show n + 0 = n by omega]
                 exact ih n first _ g1 (by omega) g4)
      · refine z_iconst h dX8_fits_75 ?_
        refine z_goto h dX8_fits_76 ?_
        refine z_iadd h dX8_fits_80 ?_
        refine z_ist1_n h dX8_fits_81 (by decide) (zst1_2 rfl) ?_
        refine z_iload h dX8_fits_82 rfl ?_
        refine z_if_eq h dX8_fits_84 (by omega) (fun b84 => ?_) (fun b84 => ?_)
        · refine z_iload_n h dX8_fits_92 rfl ?_
          refine z_ist1_n h dX8_fits_93 (by decide) (zst1_3 rfl) ?_
          refine z_iinc h dX8_fits_94 (by decide) rfl (zst1_4 rfl) ?_
          refine z_goto h dX8_fits_97 ?_
          rw [show (k : Int) + -1 = (k : Int) - 1 by omega]
          rcases j1 with ⟨j1, j2⟩ | ⟨j1, j2⟩
          · first
              | (exfalso; omega)
              | (rw [if_pos j2, if_pos j2] at g4
                 exact ih (n + 1) k _ g1 (by omega) g4)
          · first
              | (exfalso; omega)
              | (rw [if_neg (show ¬ nFit S.2.2.2.2.1 S.2.2.2.2.2 k = true by rw [j2]; decide), if_neg (show ¬ nFit S.2.2.2.2.1 S.2.2.2.2.2 k = true by rw [j2]; decide)] at g4
                 rw [show n + 0 = n by omega]
                 exact ih n first _ g1 (by omega) g4)
        · refine z_iload h dX8_fits_87 rfl ?_
          refine z_goto h dX8_fits_89 ?_
          refine z_ist1_n h dX8_fits_93 (by decide) (zst1_3 rfl) ?_
          refine z_iinc h dX8_fits_94 (by decide) rfl (zst1_4 rfl) ?_
          refine z_goto h dX8_fits_97 ?_
          rw [show (k : Int) + -1 = (k : Int) - 1 by omega]
          rcases j1 with ⟨j1, j2⟩ | ⟨j1, j2⟩
          · first
              | (exfalso; omega)
              | (rw [if_pos j2, if_pos j2] at g4
                 exact ih (n + 1) k _ g1 (by omega) g4)
          · first
              | (exfalso; omega)
              | (rw [if_neg (show ¬ nFit S.2.2.2.2.1 S.2.2.2.2.2 k = true by rw [j2]; decide), if_neg (show ¬ nFit S.2.2.2.2.1 S.2.2.2.2.2 k = true by rw [j2]; decide)] at g4
                 rw [show n + 0 = n by omega]
                 exact ih n first _ g1 (by omega) g4)
  refine z_iload_n h dX8_fits_0 rfl ?_
  refine z_i2l h dX8_fits_1 (by omega) ?_
  refine z_lconst (x := 0) h dX8_fits_2 (by decide) ?_
  refine z_lconst (x := 1) h dX8_fits_3 (by decide) ?_
  refine z_cSi3 h dX8_fits_4 lX8_83 vX8_in (c_X8_in _ w (0) (1) (by unfold zlo; omega) (by unfold zlo; omega) (by unfold zlo; omega)) rfl (Nat.le_of_ble_eq_true rfl) (by decide) (fun v2 σ2 g2 => ?_)
  obtain ⟨g2, e2⟩ := g2
  rw [e2]
  refine z_if_ne h dX8_fits_7 (by omega) (fun b7 => ?_) (fun b7 => ?_)
  · refine z_raload_n h dX8_fits_12 rfl ?_
    refine z_getr h dX8_fits_13 fX8_49 L57 rfl ?_
    refine z_iconst h dX8_fits_16 ?_
    refine z_iald h dX8_fits_17 L71 (by decide) (by omega) ?_
    refine z_if_eq h dX8_fits_18 (by omega) (fun b18 => ?_) (fun b18 => ?_)
    · refine z_bipush h dX8_fits_36 (by decide) ?_
      refine z_irI h hr dX8_fits_38 ?_
      refine ⟨?_, hI0, zfr_rf⟩
      unfold aFits
      rw [if_pos (by omega), if_pos (by omega)]
    · refine z_raload_n h dX8_fits_21 rfl ?_
      refine z_getr h dX8_fits_22 fX8_49 L57 rfl ?_
      refine z_iconst h dX8_fits_25 ?_
      refine z_iald h dX8_fits_26 L71 (by decide) (by omega) ?_
      refine z_raload_n h dX8_fits_27 rfl ?_
      refine z_getr h dX8_fits_28 fX8_49 L57 rfl ?_
      refine z_iconst h dX8_fits_31 ?_
      refine z_iald h dX8_fits_32 L71 (by decide) (by omega) ?_
      refine z_icmp_le h dX8_fits_33 (by omega) (by omega) (fun b33 => ?_) (fun b33 => ?_)
      · refine z_iconst h dX8_fits_39 ?_
        refine z_ist1_n h dX8_fits_40 (by decide) (zst1_2 rfl) ?_
        refine z_bipush h dX8_fits_41 (by decide) ?_
        refine z_ist1_n h dX8_fits_43 (by decide) (zst1_3 rfl) ?_
        refine z_iconst h dX8_fits_44 ?_
        refine z_raload_n h dX8_fits_45 rfl ?_
        refine z_getr h dX8_fits_46 fX8_49 L57 rfl ?_
        refine z_iconst h dX8_fits_49 ?_
        refine z_iald h dX8_fits_50 L71 (by decide) (by omega) ?_
        rw [s3]
        refine z_ishl h dX8_fits_51 ?_
        rw [hs]
        refine z_iconst h dX8_fits_52 ?_
        refine z_isub h dX8_fits_53 ?_
        refine z_ist1 h dX8_fits_54 (by decide) (zst1_4 rfl) ?_
        exact L N 0 (-4) none (by omega) (Nat.le_refl _) (nCnt_s _ _)
      · refine z_bipush h dX8_fits_36 (by decide) ?_
        refine z_irI h hr dX8_fits_38 ?_
        refine ⟨?_, hI0, zfr_rf⟩
        unfold aFits
        rw [if_pos (by omega), if_pos (by omega)]
  · refine z_iconst h dX8_fits_10 ?_
    refine z_irI h hr dX8_fits_11 ?_
    refine ⟨?_, hI0, zfr_rf⟩
    unfold aFits
    rw [if_neg (by omega)]
