/-- the mode of the reference's morning -/
def mMd (σ : zM) (np : Nat) (md : zMd) : Prop := (σ 57 25 = md.1 ∧ 0 ≤ md.1 ∧ md.1 ≤ 3) ∧ (∃ hd : Nat, σ 57 20 = hd ∧ hd < 256 ∧ ∀ c, c < 8 → hd.testBit c = !md.2.1.testBit c) ∧ ((md.2.2.2 = -1 ∧ σ 57 26 = -4) ∨ (0 ≤ md.2.2.2 ∧ md.2.2.2 ≤ 9999 ∧ σ 57 26 = md.2.2.2)) ∧ (-4 ≤ σ 57 21 ∧ σ 57 21 < np) ∧ (-4 ≤ σ 57 23 ∧ σ 57 23 < np) ∧ (0 ≤ σ 57 21 → 0 ≤ σ 57 22 ∧ σ 57 22 < 200) ∧ (0 ≤ σ 57 23 → 0 ≤ σ 57 24 ∧ σ 57 24 < 200) ∧ ∀ (t : Int) (line : List Int), yEx t line md.2.2.1 = true ↔ (0 ≤ σ 57 21 ∧ σ 57 22 = t ∧ σ 57 21 ∈ line) ∨ (0 ≤ σ 57 23 ∧ σ 57 24 = t ∧ σ 57 23 ∈ line)
theorem orstep {cr v : Int} {cd rest : Bool} {Y : Prop} (h : (cr = 1 ∨ (cd || rest) = true) ↔ Y) (hv : v = 1 ↔ (cr = 1 ∨ cd = true)) : (v = 1 ∨ rest = true) ↔ Y := by
  rw [← h, Bool.or_eq_true, hv, or_assoc]
theorem zb_of {v : Int} {Y : Bool} (h2 : v = 0 ∨ v = 1) (h : v = 1 ↔ Y = true) : v = zb Y := by
  cases Y
  · rcases h2 with rfl | rfl
    · rfl
    · exact absurd (h.mp rfl) (by decide)
  · exact h.mpr rfl
theorem c_X8_doesCry (σ : zM) (P : zP) (hP : mPlan σ 0 P) (md : zMd) (hmd : mMd σ P.1.length md) (line : List Int) (hR : mRow σ line P.1.length) (t : Int) (ht : 0 ≤ t ∧ t < 200) : zCi mX8_doesCry (fun u => [zr u 57, zi t]) σ (fun r σ' => r = zb (yCry P md t line) ∧ σ' = σ) := by
  refine zCi_mk (own := RX8) rfl (by decide +kernel) (fun w => [some (zr w 57), some (zi t), none, none, none, none, none]) (fun _ => rfl) (fun _ => Nat.le_of_ble_eq_true rfl) ?_
  intro Γ h hr
  have q1 := hP.1
  have np10 := hP.2.2.2.2.1
  have q3 := hP.2.2.1
  have q4 := q3.1
  have q5 := q3.2.1
  have qok := hP.2.2.2.2.2.1
  obtain ⟨m1, ⟨hd, m2, m3, m4⟩, m5, m6, m7, m8, m9, m10⟩ := hmd
  obtain ⟨Y, hY⟩ : ∃ Y, Y = yCry P md t line := ⟨_, rfl⟩
  rw [← hY] at hr
  by_cases hz : 0 ≤ md.2.2.2
  · have e26 : σ 57 26 = md.2.2.2 := by omega
    have hY2 : Y = yDr md.2.2.2 t line P.1 0 0 := by rw [hY]; unfold yCry; rw [if_pos hz]
    obtain ⟨z, hzz⟩ : ∃ z, z = md.2.2.2 := ⟨_, rfl⟩
    rw [← hzz] at hY2 e26 m5
    have L : ∀ (n i : Nat) (k cr : Int) (l5 l6 : Option Value), i + n = P.1.length → 0 ≤ k ∧ k ≤ i → (cr = 0 ∨ cr = 1) → ((cr = 1 ∨ yDr z t line (P.1.drop i) i k = true) ↔ Y = true) → zV Γ σ 14 [some (zr (zw Γ) 57), some (zi t), some (zi k), some (zi cr), some (zi i), l5, l6] [] := by
      intro n
      induction n with
      | zero =>
        intro i k cr l5 l6 h1 h2 h3 h4
        rw [List.drop_eq_nil_of_le (by omega)] at h4
        refine z_iload h dX8_doesCry_14 rfl ?_
        refine z_raload_n h dX8_doesCry_16 rfl ?_
        refine z_getr h dX8_doesCry_17 fX8_13 L57 rfl ?_
        refine z_iconst h dX8_doesCry_20 ?_
        refine z_iald h dX8_doesCry_21 L59 (by decide) (by omega) ?_
        refine z_icmp_ge h dX8_doesCry_22 (by omega) (by omega) (fun b22 => ?_) (fun b22 => by exfalso; omega)
        refine z_iload_n h dX8_doesCry_109 rfl ?_
        refine z_irZ h hr dX8_doesCry_110 (by first | decide | omega | simp_all) ?_
        exact ⟨zb_of h3 (by rw [← h4]; simp [yDr]), rfl⟩
      | succ n ih =>
        intro i k cr l5 l6 h1 h2 h3 h4
        have hlt : i < P.1.length := by omega
        have hx := List.getElem?_eq_getElem hlt
        obtain ⟨p, hpe⟩ : ∃ p, p = P.1[i] := ⟨_, rfl⟩
        rw [← hpe] at hx
        rw [List.drop_eq_getElem_cons hlt, ← hpe, yDr, show (i : Int) + 1 = ((i + 1 : Nat) : Int) by omega] at h4
        have g1 := hP.2.1 i p hx
        rw [show (10 * 0 + (i : Int)) = i by omega] at g1
        have g2 := qok p (List.mem_of_getElem? hx)
        by_cases hk : p.2.1 = 1
        · rw [if_pos hk] at h4
          obtain ⟨X, hX⟩ : ∃ X, X = 7919 * z + 6151 * k + 3571 * t + 1 := ⟨_, rfl⟩
          have hX2 : 0 ≤ X ∧ X ≤ 90000000 := by omega
          have hXX : 0 ≤ X * X := Int.mul_nonneg hX2.1 hX2.1
          have hXY : X * X ≤ 90000000 * 90000000 := Int.mul_le_mul hX2.2 hX2.2 hX2.1 (by omega)
          have e : yDn z k t = decide (X * X % 65521 % 20 = 0) := by unfold yDn; rw [← hX]
          rw [e] at h4
          have hc := zcmp_c (X * X % 65521 % 20) 0
          have hcd : (decide ((i : Int) ∈ line) && decide (X * X % 65521 % 20 = 0)) = true ↔ ((i : Int) ∈ line ∧ X * X % 65521 % 20 = 0) := by simp
          refine z_iload h dX8_doesCry_14 rfl ?_
          refine z_raload_n h dX8_doesCry_16 rfl ?_
          refine z_getr h dX8_doesCry_17 fX8_13 L57 rfl ?_
          refine z_iconst h dX8_doesCry_20 ?_
          refine z_iald h dX8_doesCry_21 L59 (by decide) (by omega) ?_
          refine z_icmp_ge h dX8_doesCry_22 (by omega) (by omega) (fun b22 => by exfalso; omega) (fun b22 => ?_)
          refine z_raload_n h dX8_doesCry_25 rfl ?_
          refine z_getr h dX8_doesCry_26 fX8_19 L57 rfl ?_
          refine z_iload h dX8_doesCry_29 rfl ?_
          refine z_iald h dX8_doesCry_31 L61 (by decide) (by omega) ?_
          refine z_iconst h dX8_doesCry_32 ?_
          refine z_icmp_ne h dX8_doesCry_33 (by omega) (by omega) (fun b33 => by exfalso; omega) (fun b33 => ?_)
          refine z_ldc2 (x := 7919) h dX8_doesCry_36 kX8_148 (by decide) ?_
          refine z_raload_n h dX8_doesCry_39 rfl ?_
          refine y_get 26 h dX8_doesCry_40 fX8_142 L57 rfl rfl ?_
          rw [e26]
          refine z_i2l h dX8_doesCry_43 (by omega) ?_
          refine z_lmul h dX8_doesCry_44 ?_
          refine z_ldc2 (x := 6151) h dX8_doesCry_45 kX8_150 (by decide) ?_
          refine z_iload_n h dX8_doesCry_48 rfl ?_
          refine z_i2l h dX8_doesCry_49 (by omega) ?_
          refine z_lmul h dX8_doesCry_50 ?_
          refine z_ladd h dX8_doesCry_51 ?_
          refine z_ldc2 (x := 3571) h dX8_doesCry_52 kX8_152 (by decide) ?_
          refine z_iload_n h dX8_doesCry_55 rfl ?_
          refine z_i2l h dX8_doesCry_56 (by omega) ?_
          refine z_lmul h dX8_doesCry_57 ?_
          refine z_ladd h dX8_doesCry_58 ?_
          refine z_lconst (x := 1) h dX8_doesCry_59 (by decide) ?_
          refine z_ladd h dX8_doesCry_60 ?_
          rw [← hX]
          refine z_lst h dX8_doesCry_61 (by decide) (zst2_5 rfl) ?_
          refine z_iload_n h dX8_doesCry_63 rfl ?_
          refine z_if_ne h dX8_doesCry_64 (by omega) (fun b64 => ?_) (fun b64 => ?_)
          · refine z_iconst h dX8_doesCry_94 ?_
            refine z_goto h dX8_doesCry_95 ?_
            refine z_ist1_n h dX8_doesCry_99 (by decide) (zst1_3 rfl) ?_
            refine z_iinc h dX8_doesCry_100 (by decide) rfl (zst1_2 rfl) ?_
            refine z_iinc h dX8_doesCry_103 (by decide) rfl (zst1_4 rfl) ?_
            refine z_goto h dX8_doesCry_106 ?_
            rw [show (i : Int) + 1 = ((i + 1 : Nat) : Int) by omega]
            refine ih (i + 1) (k + 1) _ _ _ (by omega) (by omega) (by first | exact Or.inl rfl | exact Or.inr rfl) (orstep h4 ?_)
            rw [hcd]
            first
              | exact ⟨fun _ => Or.inl (by omega), fun _ => rfl⟩
              | (rcases g4 with ⟨g4, g5⟩ | ⟨g4, g5⟩ <;> first | (exfalso; omega) | exact ⟨fun _ => Or.inr ⟨g5, by omega⟩, fun _ => rfl⟩ | exact ⟨fun z => by omega, fun z => by rcases z with z | z; omega; exact absurd z.1 g5⟩)
              | exact ⟨fun z => by omega, fun z => by rcases z with z | z; omega; (exfalso; have := z.2; omega)⟩
          · refine z_lload h dX8_doesCry_67 rfl ?_
            refine z_lload h dX8_doesCry_69 rfl ?_
            refine z_lmul h dX8_doesCry_71 ?_
            refine z_ldc2 (x := 65521) h dX8_doesCry_72 kX8_154 (by decide) ?_
            refine z_lrem h dX8_doesCry_75 (by omega) (by omega) ?_
            refine z_ldc2 (x := 20) h dX8_doesCry_76 kX8_156 (by decide) ?_
            refine z_lrem h dX8_doesCry_79 (by omega) (by omega) ?_
            refine z_lconst (x := 0) h dX8_doesCry_80 (by decide) ?_
            refine z_lcmp h dX8_doesCry_81 (by omega) (by omega) ?_
            refine z_if_ne h dX8_doesCry_82 (by omega) (fun b82 => ?_) (fun b82 => ?_)
            · refine z_iconst h dX8_doesCry_98 ?_
              refine z_ist1_n h dX8_doesCry_99 (by decide) (zst1_3 rfl) ?_
              refine z_iinc h dX8_doesCry_100 (by decide) rfl (zst1_2 rfl) ?_
              refine z_iinc h dX8_doesCry_103 (by decide) rfl (zst1_4 rfl) ?_
              refine z_goto h dX8_doesCry_106 ?_
              rw [show (i : Int) + 1 = ((i + 1 : Nat) : Int) by omega]
              refine ih (i + 1) (k + 1) _ _ _ (by omega) (by omega) (by first | exact Or.inl rfl | exact Or.inr rfl) (orstep h4 ?_)
              rw [hcd]
              first
                | exact ⟨fun _ => Or.inl (by omega), fun _ => rfl⟩
                | (rcases g4 with ⟨g4, g5⟩ | ⟨g4, g5⟩ <;> first | (exfalso; omega) | exact ⟨fun _ => Or.inr ⟨g5, by omega⟩, fun _ => rfl⟩ | exact ⟨fun z => by omega, fun z => by rcases z with z | z; omega; exact absurd z.1 g5⟩)
                | exact ⟨fun z => by omega, fun z => by rcases z with z | z; omega; (exfalso; have := z.2; omega)⟩
            · refine z_raload_n h dX8_doesCry_85 rfl ?_
              refine z_iload h dX8_doesCry_86 rfl ?_
              refine z_cVi1 h dX8_doesCry_88 lX8_158 vX8_isInLine rfl L57 (c_X8_isInLine σ line P.1.length np10 hR i (by unfold zok; omega)) rfl (Nat.le_of_ble_eq_true rfl) (by decide) (fun v σ1 g4 => ?_)
              obtain ⟨g4, g4'⟩ := g4
              rw [g4']
              refine z_if_eq h dX8_doesCry_91 (by omega) (fun b91 => ?_) (fun b91 => ?_)
              · refine z_iconst h dX8_doesCry_98 ?_
                refine z_ist1_n h dX8_doesCry_99 (by decide) (zst1_3 rfl) ?_
                refine z_iinc h dX8_doesCry_100 (by decide) rfl (zst1_2 rfl) ?_
                refine z_iinc h dX8_doesCry_103 (by decide) rfl (zst1_4 rfl) ?_
                refine z_goto h dX8_doesCry_106 ?_
                rw [show (i : Int) + 1 = ((i + 1 : Nat) : Int) by omega]
                refine ih (i + 1) (k + 1) _ _ _ (by omega) (by omega) (by first | exact Or.inl rfl | exact Or.inr rfl) (orstep h4 ?_)
                rw [hcd]
                first
                  | exact ⟨fun _ => Or.inl (by omega), fun _ => rfl⟩
                  | (rcases g4 with ⟨g4, g5⟩ | ⟨g4, g5⟩ <;> first | (exfalso; omega) | exact ⟨fun _ => Or.inr ⟨g5, by omega⟩, fun _ => rfl⟩ | exact ⟨fun z => by omega, fun z => by rcases z with z | z; omega; exact absurd z.1 g5⟩)
                  | exact ⟨fun z => by omega, fun z => by rcases z with z | z; omega; (exfalso; have := z.2; omega)⟩
              · refine z_iconst h dX8_doesCry_94 ?_
                refine z_goto h dX8_doesCry_95 ?_
                refine z_ist1_n h dX8_doesCry_99 (by decide) (zst1_3 rfl) ?_
                refine z_iinc h dX8_doesCry_100 (by decide) rfl (zst1_2 rfl) ?_
                refine z_iinc h dX8_doesCry_103 (by decide) rfl (zst1_4 rfl) ?_
                refine z_goto h dX8_doesCry_106 ?_
                rw [show (i : Int) + 1 = ((i + 1 : Nat) : Int) by omega]
                refine ih (i + 1) (k + 1) _ _ _ (by omega) (by omega) (by first | exact Or.inl rfl | exact Or.inr rfl) (orstep h4 ?_)
                rw [hcd]
                first
                  | exact ⟨fun _ => Or.inl (by omega), fun _ => rfl⟩
                  | (rcases g4 with ⟨g4, g5⟩ | ⟨g4, g5⟩ <;> first | (exfalso; omega) | exact ⟨fun _ => Or.inr ⟨g5, by omega⟩, fun _ => rfl⟩ | exact ⟨fun z => by omega, fun z => by rcases z with z | z; omega; exact absurd z.1 g5⟩)
                  | exact ⟨fun z => by omega, fun z => by rcases z with z | z; omega; (exfalso; have := z.2; omega)⟩
        · rw [if_neg hk] at h4
          refine z_iload h dX8_doesCry_14 rfl ?_
          refine z_raload_n h dX8_doesCry_16 rfl ?_
          refine z_getr h dX8_doesCry_17 fX8_13 L57 rfl ?_
          refine z_iconst h dX8_doesCry_20 ?_
          refine z_iald h dX8_doesCry_21 L59 (by decide) (by omega) ?_
          refine z_icmp_ge h dX8_doesCry_22 (by omega) (by omega) (fun b22 => by exfalso; omega) (fun b22 => ?_)
          refine z_raload_n h dX8_doesCry_25 rfl ?_
          refine z_getr h dX8_doesCry_26 fX8_19 L57 rfl ?_
          refine z_iload h dX8_doesCry_29 rfl ?_
          refine z_iald h dX8_doesCry_31 L61 (by decide) (by omega) ?_
          refine z_iconst h dX8_doesCry_32 ?_
          refine z_icmp_ne h dX8_doesCry_33 (by omega) (by omega) (fun b33 => ?_) (fun b33 => by exfalso; omega)
          refine z_iinc h dX8_doesCry_103 (by decide) rfl (zst1_4 rfl) ?_
          refine z_goto h dX8_doesCry_106 ?_
          rw [show (i : Int) + 1 = ((i + 1 : Nat) : Int) by omega]
          exact ih (i + 1) k cr l5 l6 (by omega) (by omega) h3 h4
    refine z_raload_n h dX8_doesCry_0 rfl ?_
    refine y_get 26 h dX8_doesCry_1 fX8_142 L57 rfl rfl ?_
    refine z_if_lt h dX8_doesCry_4 (by omega) (fun b4 => by exfalso; omega) (fun b4 => ?_)
    refine z_iconst h dX8_doesCry_7 ?_
    refine z_ist1_n h dX8_doesCry_8 (by decide) (zst1_2 rfl) ?_
    refine z_iconst h dX8_doesCry_9 ?_
    refine z_ist1_n h dX8_doesCry_10 (by decide) (zst1_3 rfl) ?_
    refine z_iconst h dX8_doesCry_11 ?_
    refine z_ist1 h dX8_doesCry_12 (by decide) (zst1_4 rfl) ?_
    exact L P.1.length 0 0 0 none none (by omega) (by omega) (Or.inl rfl) (by rw [hY2]; simp)
  · have hY2 : Y = (yTc md.2.1 t line 0 P.2.1 || yEx t line md.2.2.1) := by rw [hY]; unfold yCry; rw [if_neg hz]
    have m10 := m10 t line
    have L : ∀ (n c : Nat) (cr : Int) (l4 l5 l6 : Option Value), c + n = P.2.1.length → (cr = 0 ∨ cr = 1) → ((cr = 1 ∨ yTc md.2.1 t line c (P.2.1.drop c) = true) ↔ Y = true) → zV Γ σ 171 [some (zr (zw Γ) 57), some (zi t), some (zi cr), some (zi c), l4, l5, l6] [] := by
      intro n
      induction n with
      | zero =>
        intro c cr l4 l5 l6 h1 h3 h4
        rw [List.drop_eq_nil_of_le (by omega)] at h4
        refine z_iload_n h dX8_doesCry_171 rfl ?_
        refine z_raload_n h dX8_doesCry_172 rfl ?_
        refine z_getr h dX8_doesCry_173 fX8_40 L57 rfl ?_
        refine z_iconst h dX8_doesCry_176 ?_
        refine z_iald h dX8_doesCry_177 L68 (by decide) (by omega) ?_
        refine z_icmp_ge h dX8_doesCry_178 (by omega) (by omega) (fun b178 => ?_) (fun b178 => by exfalso; omega)
        refine z_iload_n h dX8_doesCry_231 rfl ?_
        refine z_irZ h hr dX8_doesCry_232 (by first | decide | omega | simp_all) ?_
        exact ⟨zb_of h3 (by rw [← h4]; simp [yTc]), rfl⟩
      | succ n ih =>
        intro c cr l4 l5 l6 h1 h3 h4
        have hlt : c < P.2.1.length := by omega
        have hx := List.getElem?_eq_getElem hlt
        obtain ⟨p, hpe⟩ : ∃ p, p = P.2.1[c] := ⟨_, rfl⟩
        rw [← hpe] at hx
        rw [List.drop_eq_getElem_cons hlt, ← hpe, yTc] at h4
        have g1 := q3.2.2 c p hx
        rw [show (8 * 0 + (c : Int)) = c by omega] at g1
        have g2 := hP.2.2.2.2.2.2.1 p (List.mem_of_getElem? hx)
        have g3 := m4 c (by omega)
        have hcd : (!md.2.1.testBit c && decide (p.2 = t) && decide (p.1 ∈ line)) = true ↔ (hd.testBit c = true ∧ p.2 = t ∧ p.1 ∈ line) := by rw [g3]; simp [and_assoc]
        refine z_iload_n h dX8_doesCry_171 rfl ?_
        refine z_raload_n h dX8_doesCry_172 rfl ?_
        refine z_getr h dX8_doesCry_173 fX8_40 L57 rfl ?_
        refine z_iconst h dX8_doesCry_176 ?_
        refine z_iald h dX8_doesCry_177 L68 (by decide) (by omega) ?_
        refine z_icmp_ge h dX8_doesCry_178 (by omega) (by omega) (fun b178 => by exfalso; omega) (fun b178 => ?_)
        refine z_iload_n h dX8_doesCry_181 rfl ?_
        refine z_if_ne h dX8_doesCry_182 (by omega) (fun b182 => ?_) (fun b182 => ?_)
        · refine z_iconst h dX8_doesCry_219 ?_
          refine z_goto h dX8_doesCry_220 ?_
          refine z_ist1_n h dX8_doesCry_224 (by decide) (zst1_2 rfl) ?_
          refine z_iinc h dX8_doesCry_225 (by decide) rfl (zst1_3 rfl) ?_
          refine z_goto h dX8_doesCry_228 ?_
          rw [show (c : Int) + 1 = ((c + 1 : Nat) : Int) by omega]
          refine ih (c + 1) _ _ _ _ (by omega) (by first | exact Or.inl rfl | exact Or.inr rfl) (orstep h4 ?_)
          rw [hcd]
          first
            | exact ⟨fun _ => Or.inl (by omega), fun _ => rfl⟩
            | (rcases g7 with ⟨g7, g8⟩ | ⟨g7, g8⟩ <;> rcases g6 with ⟨g6, g9⟩ | ⟨g6, g9⟩ <;> first | (exfalso; omega) | exact ⟨fun _ => Or.inr ⟨g9, by omega, g8⟩, fun _ => rfl⟩ | exact ⟨fun z => by omega, fun z => by rcases z with z | z; omega; exact absurd z.2.2 g8⟩)
            | exact ⟨fun z => by omega, fun z => by rcases z with z | z; omega; (exfalso; have := z.2.1; omega)⟩
            | (rcases g6 with ⟨g6, g9⟩ | ⟨g6, g9⟩ <;> first | (exfalso; omega) | exact ⟨fun z => by omega, fun z => by rcases z with z | z; omega; (rw [g9] at z; exact absurd z.1 (by decide))⟩)
        · refine z_raload_n h dX8_doesCry_185 rfl ?_
          refine y_get 20 h dX8_doesCry_186 fX8_130 L57 rfl rfl ?_
          rw [m2]
          refine z_iload_n h dX8_doesCry_189 rfl ?_
          refine z_cSi2 h dX8_doesCry_190 lX8_167 vX8_has (c_X8_has σ hd c (by omega) (by omega)) rfl (Nat.le_of_ble_eq_true rfl) (by decide) (fun v σ1 g5 => ?_)
          obtain ⟨g5, g5'⟩ := g5
          rw [g5']
          have g6 : (v = 1 ∧ hd.testBit c = true) ∨ (v = 0 ∧ hd.testBit c = false) := by (cases hb : hd.testBit c <;> rw [hb] at g5 <;> simp [g5, zb])
          refine z_if_eq h dX8_doesCry_193 (by omega) (fun b193 => ?_) (fun b193 => ?_)
          · refine z_iconst h dX8_doesCry_223 ?_
            refine z_ist1_n h dX8_doesCry_224 (by decide) (zst1_2 rfl) ?_
            refine z_iinc h dX8_doesCry_225 (by decide) rfl (zst1_3 rfl) ?_
            refine z_goto h dX8_doesCry_228 ?_
            rw [show (c : Int) + 1 = ((c + 1 : Nat) : Int) by omega]
            refine ih (c + 1) _ _ _ _ (by omega) (by first | exact Or.inl rfl | exact Or.inr rfl) (orstep h4 ?_)
            rw [hcd]
            first
              | exact ⟨fun _ => Or.inl (by omega), fun _ => rfl⟩
              | (rcases g7 with ⟨g7, g8⟩ | ⟨g7, g8⟩ <;> rcases g6 with ⟨g6, g9⟩ | ⟨g6, g9⟩ <;> first | (exfalso; omega) | exact ⟨fun _ => Or.inr ⟨g9, by omega, g8⟩, fun _ => rfl⟩ | exact ⟨fun z => by omega, fun z => by rcases z with z | z; omega; exact absurd z.2.2 g8⟩)
              | exact ⟨fun z => by omega, fun z => by rcases z with z | z; omega; (exfalso; have := z.2.1; omega)⟩
              | (rcases g6 with ⟨g6, g9⟩ | ⟨g6, g9⟩ <;> first | (exfalso; omega) | exact ⟨fun z => by omega, fun z => by rcases z with z | z; omega; (rw [g9] at z; exact absurd z.1 (by decide))⟩)
          · refine z_raload_n h dX8_doesCry_196 rfl ?_
            refine z_getr h dX8_doesCry_197 fX8_46 L57 rfl ?_
            refine z_iload_n h dX8_doesCry_200 rfl ?_
            refine z_iald h dX8_doesCry_201 L70 (by decide) (by omega) ?_
            rw [g1.2.1]
            refine z_iload_n h dX8_doesCry_202 rfl ?_
            refine z_icmp_ne h dX8_doesCry_203 (by omega) (by omega) (fun b203 => ?_) (fun b203 => ?_)
            · refine z_iconst h dX8_doesCry_223 ?_
              refine z_ist1_n h dX8_doesCry_224 (by decide) (zst1_2 rfl) ?_
              refine z_iinc h dX8_doesCry_225 (by decide) rfl (zst1_3 rfl) ?_
              refine z_goto h dX8_doesCry_228 ?_
              rw [show (c : Int) + 1 = ((c + 1 : Nat) : Int) by omega]
              refine ih (c + 1) _ _ _ _ (by omega) (by first | exact Or.inl rfl | exact Or.inr rfl) (orstep h4 ?_)
              rw [hcd]
              first
                | exact ⟨fun _ => Or.inl (by omega), fun _ => rfl⟩
                | (rcases g7 with ⟨g7, g8⟩ | ⟨g7, g8⟩ <;> rcases g6 with ⟨g6, g9⟩ | ⟨g6, g9⟩ <;> first | (exfalso; omega) | exact ⟨fun _ => Or.inr ⟨g9, by omega, g8⟩, fun _ => rfl⟩ | exact ⟨fun z => by omega, fun z => by rcases z with z | z; omega; exact absurd z.2.2 g8⟩)
                | exact ⟨fun z => by omega, fun z => by rcases z with z | z; omega; (exfalso; have := z.2.1; omega)⟩
                | (rcases g6 with ⟨g6, g9⟩ | ⟨g6, g9⟩ <;> first | (exfalso; omega) | exact ⟨fun z => by omega, fun z => by rcases z with z | z; omega; (rw [g9] at z; exact absurd z.1 (by decide))⟩)
            · refine z_raload_n h dX8_doesCry_206 rfl ?_
              refine z_raload_n h dX8_doesCry_207 rfl ?_
              refine z_getr h dX8_doesCry_208 fX8_43 L57 rfl ?_
              refine z_iload_n h dX8_doesCry_211 rfl ?_
              refine z_iald h dX8_doesCry_212 L69 (by decide) (by omega) ?_
              rw [g1.1]
              refine z_cVi1 h dX8_doesCry_213 lX8_158 vX8_isInLine rfl L57 (c_X8_isInLine σ line P.1.length np10 hR p.1 (by unfold zok; omega)) rfl (Nat.le_of_ble_eq_true rfl) (by decide) (fun v2 σ2 g7 => ?_)
              obtain ⟨g7, g7'⟩ := g7
              rw [g7']
              refine z_if_eq h dX8_doesCry_216 (by omega) (fun b216 => ?_) (fun b216 => ?_)
              · refine z_iconst h dX8_doesCry_223 ?_
                refine z_ist1_n h dX8_doesCry_224 (by decide) (zst1_2 rfl) ?_
                refine z_iinc h dX8_doesCry_225 (by decide) rfl (zst1_3 rfl) ?_
                refine z_goto h dX8_doesCry_228 ?_
                rw [show (c : Int) + 1 = ((c + 1 : Nat) : Int) by omega]
                refine ih (c + 1) _ _ _ _ (by omega) (by first | exact Or.inl rfl | exact Or.inr rfl) (orstep h4 ?_)
                rw [hcd]
                first
                  | exact ⟨fun _ => Or.inl (by omega), fun _ => rfl⟩
                  | (rcases g7 with ⟨g7, g8⟩ | ⟨g7, g8⟩ <;> rcases g6 with ⟨g6, g9⟩ | ⟨g6, g9⟩ <;> first | (exfalso; omega) | exact ⟨fun _ => Or.inr ⟨g9, by omega, g8⟩, fun _ => rfl⟩ | exact ⟨fun z => by omega, fun z => by rcases z with z | z; omega; exact absurd z.2.2 g8⟩)
                  | exact ⟨fun z => by omega, fun z => by rcases z with z | z; omega; (exfalso; have := z.2.1; omega)⟩
                  | (rcases g6 with ⟨g6, g9⟩ | ⟨g6, g9⟩ <;> first | (exfalso; omega) | exact ⟨fun z => by omega, fun z => by rcases z with z | z; omega; (rw [g9] at z; exact absurd z.1 (by decide))⟩)
              · refine z_iconst h dX8_doesCry_219 ?_
                refine z_goto h dX8_doesCry_220 ?_
                refine z_ist1_n h dX8_doesCry_224 (by decide) (zst1_2 rfl) ?_
                refine z_iinc h dX8_doesCry_225 (by decide) rfl (zst1_3 rfl) ?_
                refine z_goto h dX8_doesCry_228 ?_
                rw [show (c : Int) + 1 = ((c + 1 : Nat) : Int) by omega]
                refine ih (c + 1) _ _ _ _ (by omega) (by first | exact Or.inl rfl | exact Or.inr rfl) (orstep h4 ?_)
                rw [hcd]
                first
                  | exact ⟨fun _ => Or.inl (by omega), fun _ => rfl⟩
                  | (rcases g7 with ⟨g7, g8⟩ | ⟨g7, g8⟩ <;> rcases g6 with ⟨g6, g9⟩ | ⟨g6, g9⟩ <;> first | (exfalso; omega) | exact ⟨fun _ => Or.inr ⟨g9, by omega, g8⟩, fun _ => rfl⟩ | exact ⟨fun z => by omega, fun z => by rcases z with z | z; omega; exact absurd z.2.2 g8⟩)
                  | exact ⟨fun z => by omega, fun z => by rcases z with z | z; omega; (exfalso; have := z.2.1; omega)⟩
                  | (rcases g6 with ⟨g6, g9⟩ | ⟨g6, g9⟩ <;> first | (exfalso; omega) | exact ⟨fun z => by omega, fun z => by rcases z with z | z; omega; (rw [g9] at z; exact absurd z.1 (by decide))⟩)
    have F : ∀ (v : Int), (v = 0 ∨ v = 1) → (v = 1 ↔ ((0 ≤ σ 57 21 ∧ σ 57 22 = t ∧ σ 57 21 ∈ line) ∨ (0 ≤ σ 57 23 ∧ σ 57 24 = t ∧ σ 57 23 ∈ line))) → zV Γ σ 171 [some (zr (zw Γ) 57), some (zi t), some (zi v), some (zi 0), none, none, none] [] := fun v h1 h2 => L P.2.1.length 0 v none none none (by omega) h1 (by rw [hY2, h2, ← m10]; simp [or_comm])
    refine z_raload_n h dX8_doesCry_0 rfl ?_
    refine y_get 26 h dX8_doesCry_1 fX8_142 L57 rfl rfl ?_
    refine z_if_lt h dX8_doesCry_4 (by omega) (fun b4 => ?_) (fun b4 => by exfalso; omega)
    refine z_raload_n h dX8_doesCry_111 rfl ?_
    refine y_get 21 h dX8_doesCry_112 fX8_133 L57 rfl rfl ?_
    refine z_if_lt h dX8_doesCry_115 (by omega) (fun b115 => ?_) (fun b115 => ?_)
    · refine z_raload_n h dX8_doesCry_137 rfl ?_
      refine y_get 23 h dX8_doesCry_138 fX8_136 L57 rfl rfl ?_
      refine z_if_lt h dX8_doesCry_141 (by omega) (fun b141 => ?_) (fun b141 => ?_)
      · refine z_iconst h dX8_doesCry_167 ?_
        refine z_ist1_n h dX8_doesCry_168 (by decide) (zst1_2 rfl) ?_
        refine z_iconst h dX8_doesCry_169 ?_
        refine z_ist1_n h dX8_doesCry_170 (by decide) (zst1_3 rfl) ?_
        refine F _ (by first | exact Or.inl rfl | exact Or.inr rfl) ?_
        first
          | (rcases g5 with ⟨g5, g6⟩ | ⟨g5, g6⟩ <;> first | (exfalso; omega) | exact ⟨fun _ => Or.inr ⟨by omega, by omega, g6⟩, fun _ => rfl⟩ | skip)
          | skip
        all_goals first
          | (rcases g4 with ⟨g4, g7⟩ | ⟨g4, g7⟩ <;> first | (exfalso; omega) | exact ⟨fun _ => Or.inl ⟨by omega, by omega, g7⟩, fun _ => rfl⟩ | skip)
          | skip
        all_goals first
          | exact ⟨fun z => by omega, fun z => by rcases z with ⟨z1, z2, z3⟩ | ⟨z1, z2, z3⟩ <;> first | (exfalso; omega) | exact absurd z3 (by assumption)⟩
      · refine z_raload_n h dX8_doesCry_144 rfl ?_
        refine y_get 24 h dX8_doesCry_145 fX8_164 L57 rfl rfl ?_
        refine z_iload_n h dX8_doesCry_148 rfl ?_
        refine z_icmp_ne h dX8_doesCry_149 (by omega) (by omega) (fun b149 => ?_) (fun b149 => ?_)
        · refine z_iconst h dX8_doesCry_167 ?_
          refine z_ist1_n h dX8_doesCry_168 (by decide) (zst1_2 rfl) ?_
          refine z_iconst h dX8_doesCry_169 ?_
          refine z_ist1_n h dX8_doesCry_170 (by decide) (zst1_3 rfl) ?_
          refine F _ (by first | exact Or.inl rfl | exact Or.inr rfl) ?_
          first
            | (rcases g5 with ⟨g5, g6⟩ | ⟨g5, g6⟩ <;> first | (exfalso; omega) | exact ⟨fun _ => Or.inr ⟨by omega, by omega, g6⟩, fun _ => rfl⟩ | skip)
            | skip
          all_goals first
            | (rcases g4 with ⟨g4, g7⟩ | ⟨g4, g7⟩ <;> first | (exfalso; omega) | exact ⟨fun _ => Or.inl ⟨by omega, by omega, g7⟩, fun _ => rfl⟩ | skip)
            | skip
          all_goals first
            | exact ⟨fun z => by omega, fun z => by rcases z with ⟨z1, z2, z3⟩ | ⟨z1, z2, z3⟩ <;> first | (exfalso; omega) | exact absurd z3 (by assumption)⟩
        · refine z_raload_n h dX8_doesCry_152 rfl ?_
          refine z_raload_n h dX8_doesCry_153 rfl ?_
          refine y_get 23 h dX8_doesCry_154 fX8_136 L57 rfl rfl ?_
          refine z_cVi1 h dX8_doesCry_157 lX8_158 vX8_isInLine rfl L57 (c_X8_isInLine σ line P.1.length np10 hR (σ 57 23) (by unfold zok; omega)) rfl (Nat.le_of_ble_eq_true rfl) (by decide) (fun v2 σ2 g5 => ?_)
          obtain ⟨g5, g5'⟩ := g5
          rw [g5']
          refine z_if_eq h dX8_doesCry_160 (by omega) (fun b160 => ?_) (fun b160 => ?_)
          · refine z_iconst h dX8_doesCry_167 ?_
            refine z_ist1_n h dX8_doesCry_168 (by decide) (zst1_2 rfl) ?_
            refine z_iconst h dX8_doesCry_169 ?_
            refine z_ist1_n h dX8_doesCry_170 (by decide) (zst1_3 rfl) ?_
            refine F _ (by first | exact Or.inl rfl | exact Or.inr rfl) ?_
            first
              | (rcases g5 with ⟨g5, g6⟩ | ⟨g5, g6⟩ <;> first | (exfalso; omega) | exact ⟨fun _ => Or.inr ⟨by omega, by omega, g6⟩, fun _ => rfl⟩ | skip)
              | skip
            all_goals first
              | (rcases g4 with ⟨g4, g7⟩ | ⟨g4, g7⟩ <;> first | (exfalso; omega) | exact ⟨fun _ => Or.inl ⟨by omega, by omega, g7⟩, fun _ => rfl⟩ | skip)
              | skip
            all_goals first
              | exact ⟨fun z => by omega, fun z => by rcases z with ⟨z1, z2, z3⟩ | ⟨z1, z2, z3⟩ <;> first | (exfalso; omega) | exact absurd z3 (by assumption)⟩
          · refine z_iconst h dX8_doesCry_163 ?_
            refine z_goto h dX8_doesCry_164 ?_
            refine z_ist1_n h dX8_doesCry_168 (by decide) (zst1_2 rfl) ?_
            refine z_iconst h dX8_doesCry_169 ?_
            refine z_ist1_n h dX8_doesCry_170 (by decide) (zst1_3 rfl) ?_
            refine F _ (by first | exact Or.inl rfl | exact Or.inr rfl) ?_
            first
              | (rcases g5 with ⟨g5, g6⟩ | ⟨g5, g6⟩ <;> first | (exfalso; omega) | exact ⟨fun _ => Or.inr ⟨by omega, by omega, g6⟩, fun _ => rfl⟩ | skip)
              | skip
            all_goals first
              | (rcases g4 with ⟨g4, g7⟩ | ⟨g4, g7⟩ <;> first | (exfalso; omega) | exact ⟨fun _ => Or.inl ⟨by omega, by omega, g7⟩, fun _ => rfl⟩ | skip)
              | skip
            all_goals first
              | exact ⟨fun z => by omega, fun z => by rcases z with ⟨z1, z2, z3⟩ | ⟨z1, z2, z3⟩ <;> first | (exfalso; omega) | exact absurd z3 (by assumption)⟩
    · refine z_raload_n h dX8_doesCry_118 rfl ?_
      refine y_get 22 h dX8_doesCry_119 fX8_161 L57 rfl rfl ?_
      refine z_iload_n h dX8_doesCry_122 rfl ?_
      refine z_icmp_ne h dX8_doesCry_123 (by omega) (by omega) (fun b123 => ?_) (fun b123 => ?_)
      · refine z_raload_n h dX8_doesCry_137 rfl ?_
        refine y_get 23 h dX8_doesCry_138 fX8_136 L57 rfl rfl ?_
        refine z_if_lt h dX8_doesCry_141 (by omega) (fun b141 => ?_) (fun b141 => ?_)
        · refine z_iconst h dX8_doesCry_167 ?_
          refine z_ist1_n h dX8_doesCry_168 (by decide) (zst1_2 rfl) ?_
          refine z_iconst h dX8_doesCry_169 ?_
          refine z_ist1_n h dX8_doesCry_170 (by decide) (zst1_3 rfl) ?_
          refine F _ (by first | exact Or.inl rfl | exact Or.inr rfl) ?_
          first
            | (rcases g5 with ⟨g5, g6⟩ | ⟨g5, g6⟩ <;> first | (exfalso; omega) | exact ⟨fun _ => Or.inr ⟨by omega, by omega, g6⟩, fun _ => rfl⟩ | skip)
            | skip
          all_goals first
            | (rcases g4 with ⟨g4, g7⟩ | ⟨g4, g7⟩ <;> first | (exfalso; omega) | exact ⟨fun _ => Or.inl ⟨by omega, by omega, g7⟩, fun _ => rfl⟩ | skip)
            | skip
          all_goals first
            | exact ⟨fun z => by omega, fun z => by rcases z with ⟨z1, z2, z3⟩ | ⟨z1, z2, z3⟩ <;> first | (exfalso; omega) | exact absurd z3 (by assumption)⟩
        · refine z_raload_n h dX8_doesCry_144 rfl ?_
          refine y_get 24 h dX8_doesCry_145 fX8_164 L57 rfl rfl ?_
          refine z_iload_n h dX8_doesCry_148 rfl ?_
          refine z_icmp_ne h dX8_doesCry_149 (by omega) (by omega) (fun b149 => ?_) (fun b149 => ?_)
          · refine z_iconst h dX8_doesCry_167 ?_
            refine z_ist1_n h dX8_doesCry_168 (by decide) (zst1_2 rfl) ?_
            refine z_iconst h dX8_doesCry_169 ?_
            refine z_ist1_n h dX8_doesCry_170 (by decide) (zst1_3 rfl) ?_
            refine F _ (by first | exact Or.inl rfl | exact Or.inr rfl) ?_
            first
              | (rcases g5 with ⟨g5, g6⟩ | ⟨g5, g6⟩ <;> first | (exfalso; omega) | exact ⟨fun _ => Or.inr ⟨by omega, by omega, g6⟩, fun _ => rfl⟩ | skip)
              | skip
            all_goals first
              | (rcases g4 with ⟨g4, g7⟩ | ⟨g4, g7⟩ <;> first | (exfalso; omega) | exact ⟨fun _ => Or.inl ⟨by omega, by omega, g7⟩, fun _ => rfl⟩ | skip)
              | skip
            all_goals first
              | exact ⟨fun z => by omega, fun z => by rcases z with ⟨z1, z2, z3⟩ | ⟨z1, z2, z3⟩ <;> first | (exfalso; omega) | exact absurd z3 (by assumption)⟩
          · refine z_raload_n h dX8_doesCry_152 rfl ?_
            refine z_raload_n h dX8_doesCry_153 rfl ?_
            refine y_get 23 h dX8_doesCry_154 fX8_136 L57 rfl rfl ?_
            refine z_cVi1 h dX8_doesCry_157 lX8_158 vX8_isInLine rfl L57 (c_X8_isInLine σ line P.1.length np10 hR (σ 57 23) (by unfold zok; omega)) rfl (Nat.le_of_ble_eq_true rfl) (by decide) (fun v2 σ2 g5 => ?_)
            obtain ⟨g5, g5'⟩ := g5
            rw [g5']
            refine z_if_eq h dX8_doesCry_160 (by omega) (fun b160 => ?_) (fun b160 => ?_)
            · refine z_iconst h dX8_doesCry_167 ?_
              refine z_ist1_n h dX8_doesCry_168 (by decide) (zst1_2 rfl) ?_
              refine z_iconst h dX8_doesCry_169 ?_
              refine z_ist1_n h dX8_doesCry_170 (by decide) (zst1_3 rfl) ?_
              refine F _ (by first | exact Or.inl rfl | exact Or.inr rfl) ?_
              first
                | (rcases g5 with ⟨g5, g6⟩ | ⟨g5, g6⟩ <;> first | (exfalso; omega) | exact ⟨fun _ => Or.inr ⟨by omega, by omega, g6⟩, fun _ => rfl⟩ | skip)
                | skip
              all_goals first
                | (rcases g4 with ⟨g4, g7⟩ | ⟨g4, g7⟩ <;> first | (exfalso; omega) | exact ⟨fun _ => Or.inl ⟨by omega, by omega, g7⟩, fun _ => rfl⟩ | skip)
                | skip
              all_goals first
                | exact ⟨fun z => by omega, fun z => by rcases z with ⟨z1, z2, z3⟩ | ⟨z1, z2, z3⟩ <;> first | (exfalso; omega) | exact absurd z3 (by assumption)⟩
            · refine z_iconst h dX8_doesCry_163 ?_
              refine z_goto h dX8_doesCry_164 ?_
              refine z_ist1_n h dX8_doesCry_168 (by decide) (zst1_2 rfl) ?_
              refine z_iconst h dX8_doesCry_169 ?_
              refine z_ist1_n h dX8_doesCry_170 (by decide) (zst1_3 rfl) ?_
              refine F _ (by first | exact Or.inl rfl | exact Or.inr rfl) ?_
              first
                | (rcases g5 with ⟨g5, g6⟩ | ⟨g5, g6⟩ <;> first | (exfalso; omega) | exact ⟨fun _ => Or.inr ⟨by omega, by omega, g6⟩, fun _ => rfl⟩ | skip)
                | skip
              all_goals first
                | (rcases g4 with ⟨g4, g7⟩ | ⟨g4, g7⟩ <;> first | (exfalso; omega) | exact ⟨fun _ => Or.inl ⟨by omega, by omega, g7⟩, fun _ => rfl⟩ | skip)
                | skip
              all_goals first
                | exact ⟨fun z => by omega, fun z => by rcases z with ⟨z1, z2, z3⟩ | ⟨z1, z2, z3⟩ <;> first | (exfalso; omega) | exact absurd z3 (by assumption)⟩
      · refine z_raload_n h dX8_doesCry_126 rfl ?_
        refine z_raload_n h dX8_doesCry_127 rfl ?_
        refine y_get 21 h dX8_doesCry_128 fX8_133 L57 rfl rfl ?_
        refine z_cVi1 h dX8_doesCry_131 lX8_158 vX8_isInLine rfl L57 (c_X8_isInLine σ line P.1.length np10 hR (σ 57 21) (by unfold zok; omega)) rfl (Nat.le_of_ble_eq_true rfl) (by decide) (fun v σ1 g4 => ?_)
        obtain ⟨g4, g4'⟩ := g4
        rw [g4']
        refine z_if_ne h dX8_doesCry_134 (by omega) (fun b134 => ?_) (fun b134 => ?_)
        · refine z_iconst h dX8_doesCry_163 ?_
          refine z_goto h dX8_doesCry_164 ?_
          refine z_ist1_n h dX8_doesCry_168 (by decide) (zst1_2 rfl) ?_
          refine z_iconst h dX8_doesCry_169 ?_
          refine z_ist1_n h dX8_doesCry_170 (by decide) (zst1_3 rfl) ?_
          refine F _ (by first | exact Or.inl rfl | exact Or.inr rfl) ?_
          first
            | (rcases g5 with ⟨g5, g6⟩ | ⟨g5, g6⟩ <;> first | (exfalso; omega) | exact ⟨fun _ => Or.inr ⟨by omega, by omega, g6⟩, fun _ => rfl⟩ | skip)
            | skip
          all_goals first
            | (rcases g4 with ⟨g4, g7⟩ | ⟨g4, g7⟩ <;> first | (exfalso; omega) | exact ⟨fun _ => Or.inl ⟨by omega, by omega, g7⟩, fun _ => rfl⟩ | skip)
            | skip
          all_goals first
            | exact ⟨fun z => by omega, fun z => by rcases z with ⟨z1, z2, z3⟩ | ⟨z1, z2, z3⟩ <;> first | (exfalso; omega) | exact absurd z3 (by assumption)⟩
        · refine z_raload_n h dX8_doesCry_137 rfl ?_
          refine y_get 23 h dX8_doesCry_138 fX8_136 L57 rfl rfl ?_
          refine z_if_lt h dX8_doesCry_141 (by omega) (fun b141 => ?_) (fun b141 => ?_)
          · refine z_iconst h dX8_doesCry_167 ?_
            refine z_ist1_n h dX8_doesCry_168 (by decide) (zst1_2 rfl) ?_
            refine z_iconst h dX8_doesCry_169 ?_
            refine z_ist1_n h dX8_doesCry_170 (by decide) (zst1_3 rfl) ?_
            refine F _ (by first | exact Or.inl rfl | exact Or.inr rfl) ?_
            first
              | (rcases g5 with ⟨g5, g6⟩ | ⟨g5, g6⟩ <;> first | (exfalso; omega) | exact ⟨fun _ => Or.inr ⟨by omega, by omega, g6⟩, fun _ => rfl⟩ | skip)
              | skip
            all_goals first
              | (rcases g4 with ⟨g4, g7⟩ | ⟨g4, g7⟩ <;> first | (exfalso; omega) | exact ⟨fun _ => Or.inl ⟨by omega, by omega, g7⟩, fun _ => rfl⟩ | skip)
              | skip
            all_goals first
              | exact ⟨fun z => by omega, fun z => by rcases z with ⟨z1, z2, z3⟩ | ⟨z1, z2, z3⟩ <;> first | (exfalso; omega) | exact absurd z3 (by assumption)⟩
          · refine z_raload_n h dX8_doesCry_144 rfl ?_
            refine y_get 24 h dX8_doesCry_145 fX8_164 L57 rfl rfl ?_
            refine z_iload_n h dX8_doesCry_148 rfl ?_
            refine z_icmp_ne h dX8_doesCry_149 (by omega) (by omega) (fun b149 => ?_) (fun b149 => ?_)
            · refine z_iconst h dX8_doesCry_167 ?_
              refine z_ist1_n h dX8_doesCry_168 (by decide) (zst1_2 rfl) ?_
              refine z_iconst h dX8_doesCry_169 ?_
              refine z_ist1_n h dX8_doesCry_170 (by decide) (zst1_3 rfl) ?_
              refine F _ (by first | exact Or.inl rfl | exact Or.inr rfl) ?_
              first
                | (rcases g5 with ⟨g5, g6⟩ | ⟨g5, g6⟩ <;> first | (exfalso; omega) | exact ⟨fun _ => Or.inr ⟨by omega, by omega, g6⟩, fun _ => rfl⟩ | skip)
                | skip
              all_goals first
                | (rcases g4 with ⟨g4, g7⟩ | ⟨g4, g7⟩ <;> first | (exfalso; omega) | exact ⟨fun _ => Or.inl ⟨by omega, by omega, g7⟩, fun _ => rfl⟩ | skip)
                | skip
              all_goals first
                | exact ⟨fun z => by omega, fun z => by rcases z with ⟨z1, z2, z3⟩ | ⟨z1, z2, z3⟩ <;> first | (exfalso; omega) | exact absurd z3 (by assumption)⟩
            · refine z_raload_n h dX8_doesCry_152 rfl ?_
              refine z_raload_n h dX8_doesCry_153 rfl ?_
              refine y_get 23 h dX8_doesCry_154 fX8_136 L57 rfl rfl ?_
              refine z_cVi1 h dX8_doesCry_157 lX8_158 vX8_isInLine rfl L57 (c_X8_isInLine σ line P.1.length np10 hR (σ 57 23) (by unfold zok; omega)) rfl (Nat.le_of_ble_eq_true rfl) (by decide) (fun v2 σ2 g5 => ?_)
              obtain ⟨g5, g5'⟩ := g5
              rw [g5']
              refine z_if_eq h dX8_doesCry_160 (by omega) (fun b160 => ?_) (fun b160 => ?_)
              · refine z_iconst h dX8_doesCry_167 ?_
                refine z_ist1_n h dX8_doesCry_168 (by decide) (zst1_2 rfl) ?_
                refine z_iconst h dX8_doesCry_169 ?_
                refine z_ist1_n h dX8_doesCry_170 (by decide) (zst1_3 rfl) ?_
                refine F _ (by first | exact Or.inl rfl | exact Or.inr rfl) ?_
                first
                  | (rcases g5 with ⟨g5, g6⟩ | ⟨g5, g6⟩ <;> first | (exfalso; omega) | exact ⟨fun _ => Or.inr ⟨by omega, by omega, g6⟩, fun _ => rfl⟩ | skip)
                  | skip
                all_goals first
                  | (rcases g4 with ⟨g4, g7⟩ | ⟨g4, g7⟩ <;> first | (exfalso; omega) | exact ⟨fun _ => Or.inl ⟨by omega, by omega, g7⟩, fun _ => rfl⟩ | skip)
                  | skip
                all_goals first
                  | exact ⟨fun z => by omega, fun z => by rcases z with ⟨z1, z2, z3⟩ | ⟨z1, z2, z3⟩ <;> first | (exfalso; omega) | exact absurd z3 (by assumption)⟩
              · refine z_iconst h dX8_doesCry_163 ?_
                refine z_goto h dX8_doesCry_164 ?_
                refine z_ist1_n h dX8_doesCry_168 (by decide) (zst1_2 rfl) ?_
                refine z_iconst h dX8_doesCry_169 ?_
                refine z_ist1_n h dX8_doesCry_170 (by decide) (zst1_3 rfl) ?_
                refine F _ (by first | exact Or.inl rfl | exact Or.inr rfl) ?_
                first
                  | (rcases g5 with ⟨g5, g6⟩ | ⟨g5, g6⟩ <;> first | (exfalso; omega) | exact ⟨fun _ => Or.inr ⟨by omega, by omega, g6⟩, fun _ => rfl⟩ | skip)
                  | skip
                all_goals first
                  | (rcases g4 with ⟨g4, g7⟩ | ⟨g4, g7⟩ <;> first | (exfalso; omega) | exact ⟨fun _ => Or.inl ⟨by omega, by omega, g7⟩, fun _ => rfl⟩ | skip)
                  | skip
                all_goals first
                  | exact ⟨fun z => by omega, fun z => by rcases z with ⟨z1, z2, z3⟩ | ⟨z1, z2, z3⟩ <;> first | (exfalso; omega) | exact absurd z3 (by assumption)⟩
