theorem c_X8_back (σ : zM) (S : zSt) (hI : mInv σ S) : zCi mX8_back (fun u => [zr u 57]) σ (fun r σ' => r = (nBack S).2 ∧ mInv σ' (nBack S).1 ∧ zfr 57 79 σ σ') := by
  refine zCi_mk (own := RX8) rfl (by decide +kernel) (fun w => [some (zr w 57)]) (fun _ => rfl) (fun _ => Nat.le_of_ble_eq_true rfl) ?_
  intro Γ h hr
  have hI0 := hI
  obtain ⟨hT, hP, h3, h4, h5, h6, h7⟩ := hI
  have np10 := hP.2.2.2.2.1
  have q3 := hP.2.2.1
  have c1 := q3.1
  have c2 := q3.2.1
  have t1 := h4.1
  have t2 := h4.2
  refine z_raload_n h dX8_back_0 rfl ?_
  refine y_get 14 h dX8_back_1 fX8_124 L57 rfl rfl ?_
  refine z_if_ne h dX8_back_4 (by omega) (fun b4 => ?_) (fun b4 => ?_)
  · have hlt : S.2.2.2.1.length - 1 < S.2.2.2.1.length := by omega
    have hx := List.getElem?_eq_getElem hlt
    obtain ⟨l, hle⟩ : ∃ l, l = S.2.2.2.1[S.2.2.2.1.length - 1] := ⟨_, rfl⟩
    rw [← hle] at hx
    have hx5 := h5 _ l hx
    rw [show (2 : Int) + ((S.2.2.2.1.length - 1 : Nat) : Int) = 1 + σ 57 14 by omega] at hx5
    have hlast : S.2.2.2.1.getLast? = some l := by rw [List.getLast?_eq_getElem?]; exact hx
    have hb : nBack S = ((S.1, (S.2.1.1, l, S.2.1.2.2), l.length, S.2.2.2.1.dropLast, S.2.2.2.2), (S.2.2.2.1.length : Int) - 1) := by unfold nBack; rw [hlast]
    refine z_raload_n h dX8_back_10 rfl ?_
    refine z_iconst h dX8_back_11 ?_
    refine z_raload_n h dX8_back_12 rfl ?_
    refine y_get 14 h dX8_back_13 fX8_124 L57 rfl rfl ?_
    refine z_iadd h dX8_back_16 ?_
    refine z_iconst h dX8_back_17 ?_
    refine z_cVv2 h dX8_back_18 lX8_120 vX8_copyCries rfl L57 (c_X8_copyCries σ (1 + σ 57 14) 0 (by omega) (by omega) (by omega)) rfl (Nat.le_of_ble_eq_true rfl) (by decide) (fun σ1 g1 => ?_)
    have g0 := g1.1
    have e14 := g0 57 (by omega) (by omega) (by omega) 14
    refine z_raload_n h dX8_back_21 rfl ?_
    refine z_dup h dX8_back_22 rfl ?_
    refine y_get 14 h dX8_back_23 fX8_124 L57 rfl rfl ?_
    refine z_iconst h dX8_back_26 ?_
    refine z_isub h dX8_back_27 ?_
    refine y_put 14 h dX8_back_28 fX8_124 pX8_14 L57 rfl rfl ?_
    refine z_raload_n h dX8_back_31 rfl ?_
    refine z_iconst h dX8_back_32 ?_
    refine y_put 15 h dX8_back_33 fX8_127 pX8_15 L57 rfl rfl ?_
    refine z_raload_n h dX8_back_36 rfl ?_
    refine y_get 14 h dX8_back_37 fX8_124 L57 rfl rfl ?_
    try simp (disch := omega) only [zup_eq, zup_ne, zup_nei]
    refine z_irI h hr dX8_back_40 ?_
    rw [hb]
    refine ⟨by show _ = (S.2.2.2.1.length : Int) - 1; omega, ?_, zfr_up (zfr_up (fun c hc i => g0 c (by omega) (by omega) (by omega) i) (by omega) (by omega)) (by omega) (by omega)⟩
    generalize hτ : zup (zup σ1 57 14 (σ1 57 14 - 1)) 57 15 0 = τ
    have f1 : τ 57 14 = σ1 57 14 - 1 := by rw [← hτ, zup_nei (by omega), zup_eq]
    have f2 : τ 57 15 = 0 := by rw [← hτ, zup_eq]
    have f3 : ∀ c i, ¬ (c = 57 ∧ (i = 14 ∨ i = 15)) → τ c i = σ1 c i := fun c i z => by
      rw [← hτ]
      by_cases e : c = 57
      · rw [zup_nei (by omega), zup_nei (by omega)]
      · rw [zup_ne e, zup_ne e]
    have f4 : ∀ c i, ¬ (c = 57 ∧ (i = 14 ∨ i = 15)) → c ≠ 68 → c ≠ 69 → c ≠ 70 → τ c i = σ c i := fun c i z a b d => by rw [f3 c i z, g0 c a b d]
    have f5 : ∀ (b : Int) l, mCr σ1 b l → mCr τ b l := fun b l z => mCr_fr z (f3 68 _ (by omega)) (fun k _ _ => ⟨f3 69 _ (by omega), f3 70 _ (by omega)⟩)
    refine ⟨mText_fr hT (f4 57 0 (by omega) (by omega) (by omega) (by omega)) (fun i => f4 58 i (by omega) (by omega) (by omega) (by omega)), mPlan_cr hP (fun c a b i => f4 c i (by omega) (by omega) (by omega) (by omega)) l (f5 0 l (mCr_cpy g1 hx5.1)) hx5.2, ⟨Nat.le_refl _, by rw [f2]; show (0 : Int) = (l.length : Int) - l.length; omega⟩, ⟨by rw [f1, List.length_dropLast]; omega, by rw [List.length_dropLast]; omega⟩, fun k l' hk => ?_, mNames_fr h6 (fun i => f4 71 i (by omega) (by omega) (by omega) (by omega)) (fun i => f4 72 i (by omega) (by omega) (by omega) (by omega)), h7⟩
    have hk : S.2.2.2.1.dropLast[k]? = some l' := hk
    rw [List.getElem?_dropLast] at hk
    split at hk
    · exact ⟨f5 _ _ (mCr_cpx g1 (by omega) (h5 k l' hk).1), (h5 k l' hk).2⟩
    · cases hk
  · refine z_bipush h dX8_back_7 (by decide) ?_
    refine z_irI h hr dX8_back_9 ?_
    have z : S.2.2.2.1 = [] := List.length_eq_zero_iff.mp (by omega)
    have hb : nBack S = (S, -2) := by unfold nBack; rw [z]; rfl
    rw [hb]
    exact ⟨rfl, hI0, zfr_rf⟩
theorem pK_pC {P : zP} {i : Int} (hi : 0 ≤ i ∧ i < P.1.length) : pK P i = pC P i := by unfold pK pC; rw [if_pos hi]
theorem c_X8_tell (σ : zM) (S : zSt) (hI : mInv σ S) (i m : Int) (hi : zok i) (hm : zok m) : zCi mX8_tell (fun u => [zr u 57, zi i, zi m]) σ (fun r σ' => r = (nTell S i m).2 ∧ mInv σ' (nTell S i m).1 ∧ zfr 57 79 σ σ') := by
  refine zCi_mk (own := RX8) rfl (by decide +kernel) (fun w => [some (zr w 57), some (zi i), some (zi m)]) (fun _ => rfl) (fun _ => Nat.le_of_ble_eq_true rfl) ?_
  intro Γ h hr
  have hI0 := hI
  obtain ⟨hT, hP, h3, h4, h5, h6, h7⟩ := hI
  have np10 := hP.2.2.2.2.1
  have q3 := hP.2.2.1
  have c1 := q3.1
  have c2 := q3.2.1
  unfold zok at hm
  have bad : ¬ (pK S.2.1 i = 1 ∧ 0 ≤ m ∧ m ≤ 99) → nTell S i m = (S, -1) := fun z => if_neg z
  have nok : ¬ (0 ≤ i ∧ i < S.2.1.1.length) → ¬ pK S.2.1 i = 1 := fun z y => z (pK_in y)
  have t2 := h3.2
  have t1 := h3.1
  refine z_raload_n h dX8_tell_0 rfl ?_
  refine z_iload_n h dX8_tell_1 rfl ?_
  refine z_cVi1 h dX8_tell_2 lX8_196 vX8_isPerson rfl L57 (c_X8_isPerson σ S.2.1 hP i hi) rfl (Nat.le_of_ble_eq_true rfl) (by decide) (fun v σ1 g1 => ?_)
  obtain ⟨g1, e1⟩ := g1
  rw [e1]
  refine z_if_eq h dX8_tell_5 (by omega) (fun b5 => ?_) (fun b5 => ?_)
  · refine z_iconst h dX8_tell_29 ?_
    refine z_irI h hr dX8_tell_30 ?_
    rw [bad (fun z => nok (by omega) z.1)]
    exact ⟨rfl, hI0, zfr_rf⟩
  · have a1 := mPlan_at hP (i := i) (by omega)
    have a2 := pK_pC (P := S.2.1) (i := i) (by omega)
    refine z_raload_n h dX8_tell_8 rfl ?_
    refine z_getr h dX8_tell_9 fX8_19 L57 rfl ?_
    refine z_iload_n h dX8_tell_12 rfl ?_
    refine z_iald h dX8_tell_13 L61 (by decide) (by omega) ?_
    rw [a1.1.2.1]
    refine z_if_eq h dX8_tell_14 (by omega) (fun b14 => ?_) (fun b14 => ?_)
    · refine z_iconst h dX8_tell_29 ?_
      refine z_irI h hr dX8_tell_30 ?_
      rw [bad (by omega)]
      exact ⟨rfl, hI0, zfr_rf⟩
    · refine z_iload_n h dX8_tell_17 rfl ?_
      refine z_i2l h dX8_tell_18 (by omega) ?_
      refine z_lconst (x := 0) h dX8_tell_19 (by decide) ?_
      refine z_ldc2 (x := 99) h dX8_tell_20 kX8_220 (by decide) ?_
      refine z_cSi3 h dX8_tell_23 lX8_83 vX8_in (c_X8_in _ m (0) (99) (by unfold zlo; omega) (by unfold zlo; omega) (by unfold zlo; omega)) rfl (Nat.le_of_ble_eq_true rfl) (by decide) (fun v2 σ2 g2 => ?_)
      obtain ⟨g2, e2⟩ := g2
      rw [e2]
      refine z_if_ne h dX8_tell_26 (by omega) (fun b26 => ?_) (fun b26 => ?_)
      · refine z_raload_n h dX8_tell_31 rfl ?_
        refine z_getr h dX8_tell_32 fX8_40 L57 rfl ?_
        refine z_iconst h dX8_tell_35 ?_
        refine z_iald h dX8_tell_36 L68 (by decide) (by omega) ?_
        refine z_bipush h dX8_tell_37 (by decide) ?_
        refine z_icmp_ne h dX8_tell_39 (by omega) (by omega) (fun b39 => ?_) (fun b39 => ?_)
        · refine z_raload_n h dX8_tell_45 rfl ?_
          refine z_getr h dX8_tell_46 fX8_43 L57 rfl ?_
          refine z_raload_n h dX8_tell_49 rfl ?_
          refine z_getr h dX8_tell_50 fX8_40 L57 rfl ?_
          refine z_iconst h dX8_tell_53 ?_
          refine z_iald h dX8_tell_54 L68 (by decide) (by omega) ?_
          rw [c1]
          refine z_iload_n h dX8_tell_55 rfl ?_
          refine z_iast h dX8_tell_56 L69 (by decide) (by omega) ?_
          refine z_raload_n h dX8_tell_57 rfl ?_
          refine z_getr h dX8_tell_58 fX8_46 L57 rfl ?_
          refine z_raload_n h dX8_tell_61 rfl ?_
          refine z_getr h dX8_tell_62 fX8_40 L57 rfl ?_
          refine z_iconst h dX8_tell_65 ?_
          refine z_iald h dX8_tell_66 L68 (by decide) (by omega) ?_
          try simp (disch := omega) only [zup_eq, zup_ne, zup_nei]
          rw [c1]
          refine z_iload_n h dX8_tell_67 rfl ?_
          refine z_iast h dX8_tell_68 L70 (by decide) (by omega) ?_
          refine z_raload_n h dX8_tell_69 rfl ?_
          refine z_getr h dX8_tell_70 fX8_40 L57 rfl ?_
          refine z_iconst h dX8_tell_73 ?_
          refine z_dup2 h dX8_tell_74 rfl rfl ?_
          refine z_iald h dX8_tell_75 L68 (by decide) (by omega) ?_
          try simp (disch := omega) only [zup_eq, zup_ne, zup_nei]
          rw [c1]
          refine z_iconst h dX8_tell_76 ?_
          refine z_iadd h dX8_tell_77 ?_
          refine z_iast h dX8_tell_78 L68 (by decide) (by omega) ?_
          refine z_raload_n h dX8_tell_79 rfl ?_
          refine z_dup h dX8_tell_80 rfl ?_
          refine y_get 15 h dX8_tell_81 fX8_127 L57 rfl rfl ?_
          try simp (disch := omega) only [zup_eq, zup_ne, zup_nei]
          refine z_iconst h dX8_tell_84 ?_
          refine z_iadd h dX8_tell_85 ?_
          refine y_put 15 h dX8_tell_86 fX8_127 pX8_15 L57 rfl rfl ?_
          refine z_raload_n h dX8_tell_89 rfl ?_
          refine z_getr h dX8_tell_90 fX8_40 L57 rfl ?_
          refine z_iconst h dX8_tell_93 ?_
          refine z_iald h dX8_tell_94 L68 (by decide) (by omega) ?_
          try simp (disch := omega) only [zup_eq, zup_ne, zup_nei]
          refine z_irI h hr dX8_tell_95 ?_
          have hb : nTell S i m = ((S.1, (S.2.1.1, S.2.1.2.1 ++ [(i, m)], S.2.1.2.2), S.2.2), (S.2.1.2.1.length : Int) + 1) := by (unfold nTell; rw [if_pos (by omega), if_pos (by omega)])
          rw [hb]
          refine ⟨rfl, ?_, zfr_up (zfr_up (zfr_up (zfr_up zfr_rf (by omega) (by omega)) (by omega) (by omega)) (by omega) (by omega)) (by omega) (by omega)⟩
          generalize hτ : zup (zup (zup (zup σ 69 S.2.1.2.1.length i) 70 S.2.1.2.1.length m) 68 0 ((S.2.1.2.1.length : Int) + 1)) 57 15 (σ 57 15 + 1) = τ
          have f1 : τ 57 15 = σ 57 15 + 1 := by rw [← hτ, zup_eq]
          have f2 : τ 68 0 = (S.2.1.2.1.length : Int) + 1 := by rw [← hτ, zup_ne (by omega), zup_eq]
          have f3 : τ 69 S.2.1.2.1.length = i := by rw [← hτ, zup_ne (by omega), zup_ne (by omega), zup_ne (by omega), zup_eq]
          have f4 : τ 70 S.2.1.2.1.length = m := by rw [← hτ, zup_ne (by omega), zup_ne (by omega), zup_eq]
          have hf : ∀ (c : Nat) (j : Int), ¬ (c = 57 ∧ j = 15) → ¬ (c = 68 ∧ j = 0) → ¬ ((c = 69 ∨ c = 70) ∧ j = S.2.1.2.1.length) → τ c j = σ c j := fun c j z1 z2 z3 => by
            rw [← hτ]
            by_cases e : c = 57
            · rw [zup_nei (by omega), zup_ne (by omega), zup_ne (by omega), zup_ne (by omega)]
            · rw [zup_ne e]
              by_cases e2 : c = 68
              · rw [zup_nei (by omega), zup_ne (by omega), zup_ne (by omega)]
              · rw [zup_ne e2]
                by_cases e3 : c = 70
                · rw [zup_nei (by omega), zup_ne (by omega)]
                · rw [zup_ne e3]
                  by_cases e4 : c = 69
                  · rw [zup_nei (by omega)]
                  · rw [zup_ne e4]
          refine ⟨mText_fr hT (hf 57 0 (by omega) (by omega) (by omega)) (fun j => hf 58 j (by omega) (by omega) (by omega)), mPlan_cr hP (fun c a b j => hf c j (by omega) (by omega) (by omega)) _ (mCr_add q3 i m (by omega) (by omega) f2 (by rw [show (8 * 0 + (S.2.1.2.1.length : Int)) = S.2.1.2.1.length by omega]; exact f3) (by rw [show (8 * 0 + (S.2.1.2.1.length : Int)) = S.2.1.2.1.length by omega]; exact f4) (fun k _ _ => ⟨hf 69 _ (by omega) (by omega) (by omega), hf 70 _ (by omega) (by omega) (by omega)⟩)) (fun c hc => ?_), ⟨by show S.2.2.1 ≤ (S.2.1.2.1 ++ [(i, m)]).length; simp; omega, by show τ 57 15 = ((S.2.1.2.1 ++ [(i, m)]).length : Int) - S.2.2.1; rw [f1]; simp; omega⟩, ⟨by rw [hf 57 14 (by omega) (by omega) (by omega)]; exact h4.1, h4.2⟩, fun k l hk => ⟨mCr_fr (h5 k l hk).1 (hf 68 _ (by omega) (by omega) (by omega)) (fun j _ _ => ⟨hf 69 _ (by omega) (by omega) (by omega), hf 70 _ (by omega) (by omega) (by omega)⟩), (h5 k l hk).2⟩, mNames_fr h6 (fun j => hf 71 j (by omega) (by omega) (by omega)) (fun j => hf 72 j (by omega) (by omega) (by omega)), h7⟩
          rcases List.mem_append.mp hc with hc | hc
          · exact hP.2.2.2.2.2.2.1 c hc
          · simp at hc
            subst hc
            show 0 ≤ i ∧ i < (S.2.1.1.length : Int)
            omega
        · refine z_bipush h dX8_tell_42 (by decide) ?_
          refine z_irI h hr dX8_tell_44 ?_
          have hb : nTell S i m = (S, -3) := by (unfold nTell; rw [if_pos (by omega), if_neg (by omega)])
          rw [hb]
          exact ⟨rfl, hI0, zfr_rf⟩
      · refine z_iconst h dX8_tell_29 ?_
        refine z_irI h hr dX8_tell_30 ?_
        rw [bad (by omega)]
        exact ⟨rfl, hI0, zfr_rf⟩
