theorem c_X8_lay (σ : zM) (S : zSt) (hI : mInv σ S) : zCi mX8_lay (fun u => [zr u 57]) σ (fun r σ' => r = (nLay S).2 ∧ mInv σ' (nLay S).1 ∧ zfr 57 79 σ σ') := by
  refine zCi_mk (own := RX8) rfl (by decide +kernel) (fun w => [some (zr w 57), none]) (fun _ => rfl) (fun _ => Nat.le_of_ble_eq_true rfl) ?_
  intro Γ h hr
  have hI0 := hI
  have hT := hI.1
  obtain ⟨f0, Q⟩ : ∃ f0, f0 = pAll S.1 300 0 zP0 := ⟨_, rfl⟩
  have bad : ¬ ((pAll S.1 300 0 zP0).1 = -4 ∧ (pAll S.1 300 0 zP0).2.1.length ≠ 0) → nLay S = (S, -2) := fun z => if_neg z
  rw [← Q] at bad
  have good : (f0.1 = -4 ∧ f0.2.1.length ≠ 0) → nLay S = ((S.1, f0.2, f0.2.2.1.length, [], [], []), (f0.2.1.length : Int)) := fun z => by rw [Q] at z ⊢; exact if_pos z
  have L : ∀ (n k : Nat) (σ1 τ : zM), k + n = 10 → mText τ S.1 → (f0.1 = -4 ∧ f0.2.1.length ≠ 0) → mPlan τ 1 f0.2 → zfr 57 79 σ τ → (∀ c i, ¬ ((c = 59 ∨ (63 ≤ c ∧ c ≤ 67)) ∧ i = 0) → ¬ (60 ≤ c ∧ c ≤ 62 ∧ i < 10) → σ1 c i = τ c i) → (∀ c, c = 59 ∨ (63 ≤ c ∧ c ≤ 67) → σ1 c 0 = τ c 1) → (∀ (c : Nat) (j : Int), 60 ≤ c → c ≤ 62 → 0 ≤ j → j < k → σ1 c j = τ c (10 + j)) → zV Γ σ1 95 [some (zr (zw Γ) 57), some (zi k)] [] := by
    intro n
    induction n with
    | zero =>
      intro k σ1 τ g1 g2 g3 g4 g5 g6 g7 g8
      have e : k = 10 := by omega
      subst e
      have w1 := g4.1
      have w5 := g4.2.2.2.2.1
      refine z_iload_n h dX8_lay_95 rfl ?_
      refine z_bipush h dX8_lay_96 (by decide) ?_
      refine z_icmp_ge h dX8_lay_98 (by omega) (by omega) (fun b98 => ?_) (fun b98 => by exfalso; omega)
      refine z_raload_n h dX8_lay_152 rfl ?_
      refine z_iconst h dX8_lay_153 ?_
      refine z_iconst h dX8_lay_154 ?_
      refine z_cVv2 h dX8_lay_155 lX8_120 vX8_copyCries rfl L57 (c_X8_copyCries σ1 1 0 (by omega) (by omega) (by omega)) rfl (Nat.le_of_ble_eq_true rfl) (by decide) (fun σ2 j1 => ?_)
      have j0 := j1.1
      have e59 : σ2 59 0 = f0.2.1.length := by rw [j0 59 (by omega) (by omega) (by omega), g7 59 (by omega)]; exact w1
      refine z_raload_n h dX8_lay_158 rfl ?_
      refine z_iconst h dX8_lay_159 ?_
      refine y_put 14 h dX8_lay_160 fX8_124 pX8_14 L57 rfl rfl ?_
      refine z_raload_n h dX8_lay_163 rfl ?_
      refine z_iconst h dX8_lay_164 ?_
      refine y_put 15 h dX8_lay_165 fX8_127 pX8_15 L57 rfl rfl ?_
      refine z_raload_n h dX8_lay_168 rfl ?_
      refine z_getr h dX8_lay_169 fX8_49 L57 rfl ?_
      refine z_iconst h dX8_lay_172 ?_
      refine z_iconst h dX8_lay_173 ?_
      refine z_iast h dX8_lay_174 L71 (by decide) (by omega) ?_
      refine z_raload_n h dX8_lay_175 rfl ?_
      refine z_getr h dX8_lay_176 fX8_49 L57 rfl ?_
      refine z_iconst h dX8_lay_179 ?_
      refine z_iconst h dX8_lay_180 ?_
      refine z_iast h dX8_lay_181 L71 (by decide) (by omega) ?_
      refine z_raload_n h dX8_lay_182 rfl ?_
      refine z_getr h dX8_lay_183 fX8_13 L57 rfl ?_
      refine z_iconst h dX8_lay_186 ?_
      refine z_iald h dX8_lay_187 L59 (by decide) (by omega) ?_
      try simp (disch := omega) only [zup_eq, zup_ne, zup_nei]
      refine z_irI h hr dX8_lay_188 ?_
      rw [good g3]
      generalize hτ : zup (zup (zup (zup σ2 57 14 0) 57 15 0) 71 0 0) 71 1 0 = ρ
      have f1 : ρ 57 14 = 0 := by rw [← hτ]; simp (disch := omega) only [zup_ne, zup_nei, zup_eq]
      have f2 : ρ 57 15 = 0 := by rw [← hτ]; simp (disch := omega) only [zup_ne, zup_nei, zup_eq]
      have f3 : ρ 71 0 = 0 := by rw [← hτ]; simp (disch := omega) only [zup_ne, zup_nei, zup_eq]
      have f4 : ρ 71 1 = 0 := by rw [← hτ, zup_eq]
      have f5 : ∀ c i, c ≠ 71 → ¬ (c = 57 ∧ (i = 14 ∨ i = 15)) → ρ c i = σ2 c i := fun c i c1 c2 => by
        rw [← hτ, zup_ne c1, zup_ne c1]
        by_cases e : c = 57
        · rw [zup_nei (by omega), zup_nei (by omega)]
        · rw [zup_ne e, zup_ne e]
      have f6 : ∀ c i, c ≠ 71 → ¬ (c = 57 ∧ (i = 14 ∨ i = 15)) → c ≠ 68 → c ≠ 69 → c ≠ 70 → ρ c i = σ1 c i := fun c i c1 c2 a b d => by rw [f5 c i c1 c2, j0 c a b d]
      have m1 : mCr σ1 1 f0.2.2.1 := mCr_fr g4.2.2.1 (g6 68 _ (by omega) (by omega)) (fun k _ _ => ⟨g6 69 _ (by omega) (by omega), g6 70 _ (by omega) (by omega)⟩)
      have m2 := mCr_cpy j1 m1
      refine ⟨?_, ⟨mText_fr g2 (by rw [f6 57 0 (by omega) (by omega) (by omega) (by omega) (by omega), g6 57 0 (by omega) (by omega)]) (fun i => by rw [f6 58 i (by omega) (by omega) (by omega) (by omega) (by omega), g6 58 i (by omega) (by omega)]), ⟨?_, fun k p hk => ?_, mCr_fr m2 (f5 68 _ (by omega) (by omega)) (fun k _ _ => ⟨f5 69 _ (by omega) (by omega), f5 70 _ (by omega) (by omega)⟩), ?_, g4.2.2.2.2⟩, ⟨Nat.le_refl _, by rw [f2]; show (0 : Int) = (f0.2.2.1.length : Int) - f0.2.2.1.length; omega⟩, ⟨f1, by simp⟩, fun k l hk => by simp at hk, ⟨f3, by simp, f4, by simp, by simp, by simp⟩, by show 1 ≤ f0.2.1.length; omega⟩, fun c hc i => ?_⟩
      · show _ = (f0.2.1.length : Int)
        exact e59
      · rw [f5 59 0 (by omega) (by omega)]; exact e59
      · have hk : f0.2.1[k]? = some p := hk
        have hkl := (List.getElem?_eq_some_iff.mp hk).1
        have w2 := g4.2.1 k p hk
        rw [show (10 * 1 + (k : Int)) = 10 + k by omega] at w2
        rw [show (10 * 0 + (k : Int)) = k by omega, f6 60 _ (by omega) (by omega) (by omega) (by omega) (by omega), f6 61 _ (by omega) (by omega) (by omega) (by omega) (by omega), f6 62 _ (by omega) (by omega) (by omega) (by omega) (by omega), g8 60 k (by omega) (by omega) (by omega) (by omega), g8 61 k (by omega) (by omega) (by omega) (by omega), g8 62 k (by omega) (by omega) (by omega) (by omega)]
        exact w2
      · rw [f6 63 _ (by omega) (by omega) (by omega) (by omega) (by omega), f6 64 _ (by omega) (by omega) (by omega) (by omega) (by omega), f6 65 _ (by omega) (by omega) (by omega) (by omega) (by omega), f6 66 _ (by omega) (by omega) (by omega) (by omega) (by omega), f6 67 _ (by omega) (by omega) (by omega) (by omega) (by omega), g7 63 (by omega), g7 64 (by omega), g7 65 (by omega), g7 66 (by omega), g7 67 (by omega)]
        exact g4.2.2.2.1
      · rw [f6 c i (by omega) (by omega) (by omega) (by omega) (by omega), g6 c i (by omega) (by omega)]
        exact g5 c hc i
    | succ n ih =>
      intro k σ1 τ g1 g2 g3 g4 g5 g6 g7 g8
      refine z_iload_n h dX8_lay_95 rfl ?_
      refine z_bipush h dX8_lay_96 (by decide) ?_
      refine z_icmp_ge h dX8_lay_98 (by omega) (by omega) (fun b98 => by exfalso; omega) (fun b98 => ?_)
      refine z_raload_n h dX8_lay_101 rfl ?_
      refine z_getr h dX8_lay_102 fX8_16 L57 rfl ?_
      refine z_iload_n h dX8_lay_105 rfl ?_
      refine z_raload_n h dX8_lay_106 rfl ?_
      refine z_getr h dX8_lay_107 fX8_16 L57 rfl ?_
      refine z_bipush h dX8_lay_110 (by decide) ?_
      refine z_iload_n h dX8_lay_112 rfl ?_
      refine z_iadd h dX8_lay_113 ?_
      refine z_iald h dX8_lay_114 L60 (by decide) (by omega) ?_
      refine z_iast h dX8_lay_115 L60 (by decide) (by omega) ?_
      refine z_raload_n h dX8_lay_116 rfl ?_
      refine z_getr h dX8_lay_117 fX8_19 L57 rfl ?_
      refine z_iload_n h dX8_lay_120 rfl ?_
      refine z_raload_n h dX8_lay_121 rfl ?_
      refine z_getr h dX8_lay_122 fX8_19 L57 rfl ?_
      refine z_bipush h dX8_lay_125 (by decide) ?_
      refine z_iload_n h dX8_lay_127 rfl ?_
      refine z_iadd h dX8_lay_128 ?_
      refine z_iald h dX8_lay_129 L61 (by decide) (by omega) ?_
      try simp (disch := omega) only [zup_eq, zup_ne, zup_nei]
      refine z_iast h dX8_lay_130 L61 (by decide) (by omega) ?_
      refine z_raload_n h dX8_lay_131 rfl ?_
      refine z_getr h dX8_lay_132 fX8_22 L57 rfl ?_
      refine z_iload_n h dX8_lay_135 rfl ?_
      refine z_raload_n h dX8_lay_136 rfl ?_
      refine z_getr h dX8_lay_137 fX8_22 L57 rfl ?_
      refine z_bipush h dX8_lay_140 (by decide) ?_
      refine z_iload_n h dX8_lay_142 rfl ?_
      refine z_iadd h dX8_lay_143 ?_
      refine z_iald h dX8_lay_144 L62 (by decide) (by omega) ?_
      try simp (disch := omega) only [zup_eq, zup_ne, zup_nei]
      refine z_iast h dX8_lay_145 L62 (by decide) (by omega) ?_
      refine z_iinc h dX8_lay_146 (by decide) rfl (zst1_1 rfl) ?_
      refine z_goto h dX8_lay_149 ?_
      rw [show (k : Int) + 1 = ((k + 1 : Nat) : Int) by omega]
      refine ih (k + 1) _ τ (by omega) g2 g3 g4 g5 (fun c i c1 c2 => ?_) (fun c hc => by simp (disch := omega) only [zup_ne]; exact g7 c hc) (fun c j ca cb j1 j2 => ?_)
      · rw [← g6 c i c1 c2]
        by_cases e : 60 ≤ c ∧ c ≤ 62
        · simp (disch := omega) only [zup_nei]
        · simp (disch := omega) only [zup_ne]
      · by_cases e : j = k
        · subst e
          rcases (show c = 60 ∨ c = 61 ∨ c = 62 by omega) with rfl | rfl | rfl
          · simp (disch := omega) only [zup_ne, zup_eq]
            exact g6 60 _ (by omega) (by omega)
          · simp (disch := omega) only [zup_ne, zup_eq]
            exact g6 61 _ (by omega) (by omega)
          · simp (disch := omega) only [zup_ne, zup_eq]
            exact g6 62 _ (by omega) (by omega)
        · simp (disch := omega) only [zup_nei]
          exact g8 c j ca cb j1 (by omega)
  refine z_raload_n h dX8_lay_0 rfl ?_
  refine z_cVi0 h dX8_lay_1 lX8_116 vX8_readAll rfl L57 (c_X8_readAll σ S.1 hT) rfl (Nat.le_of_ble_eq_true rfl) (by decide) (fun v σ1 g1 => ?_)
  rw [← Q] at g1
  obtain ⟨g1, g2, g3, g4⟩ := g1
  have fr1 : zfr 57 79 σ σ1 := fun c hc i => g1 c i (by unfold mRi; omega)
  refine z_bipush h dX8_lay_4 (by decide) ?_
  refine z_icmp_ne h dX8_lay_6 (by omega) (by omega) (fun b6 => ?_) (fun b6 => ?_)
  · refine z_bipush h dX8_lay_18 (by decide) ?_
    refine z_irI h hr dX8_lay_20 ?_
    rw [bad (fun z => by omega)]
    exact ⟨rfl, mInv_rd hI0 g1, fr1⟩
  · have g5 := g4 (by omega)
    have g6 := g5.1
    have g7 := g5.2.2.2.2.1
    refine z_raload_n h dX8_lay_9 rfl ?_
    refine z_getr h dX8_lay_10 fX8_13 L57 rfl ?_
    refine z_iconst h dX8_lay_13 ?_
    refine z_iald h dX8_lay_14 L59 (by decide) (by omega) ?_
    refine z_if_ne h dX8_lay_15 (by omega) (fun b15 => ?_) (fun b15 => ?_)
    · refine z_raload_n h dX8_lay_21 rfl ?_
      refine z_getr h dX8_lay_22 fX8_13 L57 rfl ?_
      refine z_iconst h dX8_lay_25 ?_
      refine z_raload_n h dX8_lay_26 rfl ?_
      refine z_getr h dX8_lay_27 fX8_13 L57 rfl ?_
      refine z_iconst h dX8_lay_30 ?_
      refine z_iald h dX8_lay_31 L59 (by decide) (by omega) ?_
      refine z_iast h dX8_lay_32 L59 (by decide) (by omega) ?_
      refine z_raload_n h dX8_lay_33 rfl ?_
      refine z_getr h dX8_lay_34 fX8_25 L57 rfl ?_
      refine z_iconst h dX8_lay_37 ?_
      refine z_raload_n h dX8_lay_38 rfl ?_
      refine z_getr h dX8_lay_39 fX8_25 L57 rfl ?_
      refine z_iconst h dX8_lay_42 ?_
      refine z_iald h dX8_lay_43 L63 (by decide) (by omega) ?_
      try simp (disch := omega) only [zup_eq, zup_ne, zup_nei]
      refine z_iast h dX8_lay_44 L63 (by decide) (by omega) ?_
      refine z_raload_n h dX8_lay_45 rfl ?_
      refine z_getr h dX8_lay_46 fX8_28 L57 rfl ?_
      refine z_iconst h dX8_lay_49 ?_
      refine z_raload_n h dX8_lay_50 rfl ?_
      refine z_getr h dX8_lay_51 fX8_28 L57 rfl ?_
      refine z_iconst h dX8_lay_54 ?_
      refine z_iald h dX8_lay_55 L64 (by decide) (by omega) ?_
      try simp (disch := omega) only [zup_eq, zup_ne, zup_nei]
      refine z_iast h dX8_lay_56 L64 (by decide) (by omega) ?_
      refine z_raload_n h dX8_lay_57 rfl ?_
      refine z_getr h dX8_lay_58 fX8_31 L57 rfl ?_
      refine z_iconst h dX8_lay_61 ?_
      refine z_raload_n h dX8_lay_62 rfl ?_
      refine z_getr h dX8_lay_63 fX8_31 L57 rfl ?_
      refine z_iconst h dX8_lay_66 ?_
      refine z_iald h dX8_lay_67 L65 (by decide) (by omega) ?_
      try simp (disch := omega) only [zup_eq, zup_ne, zup_nei]
      refine z_iast h dX8_lay_68 L65 (by decide) (by omega) ?_
      refine z_raload_n h dX8_lay_69 rfl ?_
      refine z_getr h dX8_lay_70 fX8_34 L57 rfl ?_
      refine z_iconst h dX8_lay_73 ?_
      refine z_raload_n h dX8_lay_74 rfl ?_
      refine z_getr h dX8_lay_75 fX8_34 L57 rfl ?_
      refine z_iconst h dX8_lay_78 ?_
      refine z_iald h dX8_lay_79 L66 (by decide) (by omega) ?_
      try simp (disch := omega) only [zup_eq, zup_ne, zup_nei]
      refine z_iast h dX8_lay_80 L66 (by decide) (by omega) ?_
      refine z_raload_n h dX8_lay_81 rfl ?_
      refine z_getr h dX8_lay_82 fX8_37 L57 rfl ?_
      refine z_iconst h dX8_lay_85 ?_
      refine z_raload_n h dX8_lay_86 rfl ?_
      refine z_getr h dX8_lay_87 fX8_37 L57 rfl ?_
      refine z_iconst h dX8_lay_90 ?_
      refine z_iald h dX8_lay_91 L67 (by decide) (by omega) ?_
      try simp (disch := omega) only [zup_eq, zup_ne, zup_nei]
      refine z_iast h dX8_lay_92 L67 (by decide) (by omega) ?_
      refine z_iconst h dX8_lay_93 ?_
      refine z_ist1_n h dX8_lay_94 (by decide) (zst1_1 rfl) ?_
      refine L 10 0 _ σ1 (by omega) (mText_rd hT g1) (by omega) g5 fr1 (fun c i c1 c2 => ?_) (fun c hc => ?_) (fun c j _ _ a b => by omega)
      · by_cases e : i = 0
        · simp (disch := omega) only [zup_ne]
        · simp (disch := omega) only [zup_nei]
      · rcases (show c = 59 ∨ c = 63 ∨ c = 64 ∨ c = 65 ∨ c = 66 ∨ c = 67 by omega) with rfl | rfl | rfl | rfl | rfl | rfl <;> simp (disch := omega) only [zup_ne, zup_eq]
    · refine z_bipush h dX8_lay_18 (by decide) ?_
      refine z_irI h hr dX8_lay_20 ?_
      rw [bad (fun z => by omega)]
      exact ⟨rfl, mInv_rd hI0 g1, fr1⟩
