theorem c_X8_isFit (σ : zM) (sv sd : List Int) (hN : mNames σ sv sd) (hle : sv.length ≤ sd.length) (set : Nat) (hs : set < 512) : zCi mX8_isFit (fun u => [zr u 57, zi set]) σ (fun r σ' => ((r = 1 ∧ nFit sv sd set = true) ∨ (r = 0 ∧ nFit sv sd set = false)) ∧ σ' = σ) := by
  refine zCi_mk (own := RX8) rfl (by decide +kernel) (fun w => [some (zr w 57), some (zi set), none, none, none, none, none, none, none]) (fun _ => rfl) (fun _ => Nat.le_of_ble_eq_true rfl) ?_
  intro Γ h hr
  obtain ⟨s1, s2, s3, s4, s5, s6⟩ := hN
  obtain ⟨F, hF⟩ : ∃ F, F = nFit sv sd set := ⟨_, rfl⟩
  rw [← hF] at hr
  have dat : ∀ q : Int, 0 ≤ q → q < sd.length → σ 72 (9 + q) = sd.getD q.toNat 0 ∧ 0 ≤ sd.getD q.toNat 0 ∧ sd.getD q.toNat 0 ≤ 9 := fun q a b => by
    have hl : q.toNat < sd.length := by omega
    have := s6 q.toNat _ (List.getElem?_eq_getElem hl)
    rw [show (9 + ((q.toNat : Nat) : Int)) = 9 + q by omega] at this
    rw [List.getD_eq_getElem?_getD, List.getElem?_eq_getElem hl]
    exact this
  have L : ∀ (m t : Nat) (lo hi tn b : Int) (l8 : Option Value), t + m = sd.length → lo + (sd.length - 1 - hi) = t → 0 ≤ lo → hi ≤ (sd.length : Int) - 1 → (tn = 0 ∨ tn = 1) → ((b = 1 ∧ nF sv sd set (sv.length - t) lo hi (decide (tn = 1)) t = F) ∨ (b = 0 ∧ F = false)) → zV Γ σ 23 [some (zr (zw Γ) 57), some (zi set), some (zi sd.length), some (zi lo), some (zi hi), some (zi tn), some (zi b), some (zi t), l8] [] := by
    intro m
    induction m with
    | zero =>
      intro t lo hi tn b l8 h1 h2 h3 h4 h5 h6
      rw [show sv.length - t = 0 by omega] at h6
      refine z_iload h dX8_isFit_23 rfl ?_
      refine z_iload_n h dX8_isFit_25 rfl ?_
      refine z_icmp_ge h dX8_isFit_26 (by omega) (by omega) (fun b26 => ?_) (fun b26 => by exfalso; omega)
      refine z_iload h dX8_isFit_149 rfl ?_
      refine z_irZ h hr dX8_isFit_151 (by first | decide | omega | simp_all) ?_
      refine ⟨?_, rfl⟩
      rcases h6 with ⟨rfl, h6⟩ | ⟨rfl, h6⟩
      · exact Or.inl ⟨rfl, h6.symm⟩
      · exact Or.inr ⟨rfl, h6⟩
    | succ m ih =>
      intro t lo hi tn b l8 h1 h2 h3 h4 h5 h6
      have dlo := dat lo h3 (by omega)
      have dhi := dat hi (by omega) (by omega)
      have hb : b = 0 ∨ b = 1 := by omega
      have hst : ∀ r, nF sv sd set (r + 1) lo hi (decide (tn = 1)) t = (if sv.getD t 0 = 10 ∨ sv.getD t 0 = (if (if set.testBit t then !(decide (tn = 1)) else decide (tn = 1)) then sd.getD hi.toNat 0 else sd.getD lo.toNat 0) then nF sv sd set r (if (if set.testBit t then !(decide (tn = 1)) else decide (tn = 1)) then lo else lo + 1) (if (if set.testBit t then !(decide (tn = 1)) else decide (tn = 1)) then hi - 1 else hi) (if set.testBit t then !(decide (tn = 1)) else decide (tn = 1)) (t + 1) else false) := fun r => rfl
      have dsv : t < sv.length → σ 72 t = sv.getD t 0 ∧ 0 ≤ sv.getD t 0 ∧ sv.getD t 0 ≤ 10 := fun a => by
        have := s5 t _ (List.getElem?_eq_getElem a)
        rw [List.getD_eq_getElem?_getD, List.getElem?_eq_getElem a]
        exact this
      have nx : ∀ (tn' b' : Int) (l8 : Option Value), (tn' = 0 ∨ tn' = 1) → (tn' = 1 ↔ (if set.testBit t then !(decide (tn = 1)) else decide (tn = 1)) = true) → ((b' = 1 ∧ b = 1 ∧ (sv.length ≤ t ∨ sv.getD t 0 = 10 ∨ sv.getD t 0 = if tn' = 1 then sd.getD hi.toNat 0 else sd.getD lo.toNat 0)) ∨ (b' = 0 ∧ (b = 0 ∨ (t < sv.length ∧ ¬ (sv.getD t 0 = 10 ∨ sv.getD t 0 = if tn' = 1 then sd.getD hi.toNat 0 else sd.getD lo.toNat 0))))) → zV Γ σ 23 [some (zr (zw Γ) 57), some (zi set), some (zi sd.length), some (zi (if tn' = 1 then lo else lo + 1)), some (zi (if tn' = 1 then hi - 1 else hi)), some (zi tn'), some (zi b'), some (zi (t + 1 : Nat)), l8] [] := by
        intro tn' b' l8 g1 g2 g3
        have ed : (if set.testBit t then !(decide (tn = 1)) else decide (tn = 1)) = decide (tn' = 1) := by
          rw [Bool.eq_iff_iff, ← g2]; simp
        refine ih (t + 1) _ _ tn' b' l8 (by omega) (by split <;> omega) (by split <;> omega) (by split <;> omega) g1 ?_
        simp only [ed, decide_eq_true_eq] at hst
        rcases g3 with ⟨rfl, g4, g5⟩ | ⟨rfl, g4⟩
        · rcases h6 with ⟨_, h6⟩ | ⟨h6, _⟩
          · left
            refine ⟨rfl, ?_⟩
            by_cases e : t < sv.length
            · rw [show sv.length - t = (sv.length - (t + 1)) + 1 by omega, hst, if_pos (by omega)] at h6
              exact h6
            · rw [show sv.length - t = 0 by omega] at h6
              rw [show sv.length - (t + 1) = 0 by omega]
              exact h6
          · omega
        · right
          refine ⟨rfl, ?_⟩
          rcases h6 with ⟨h6', h6⟩ | ⟨_, h6⟩
          · rcases g4 with g4 | ⟨g4, g5⟩
            · omega
            · rw [show sv.length - t = (sv.length - (t + 1)) + 1 by omega, hst, if_neg g5] at h6
              exact h6.symm
          · exact h6
      refine z_iload h dX8_isFit_23 rfl ?_
      refine z_iload_n h dX8_isFit_25 rfl ?_
      refine z_icmp_ge h dX8_isFit_26 (by omega) (by omega) (fun b26 => by exfalso; omega) (fun b26 => ?_)
      refine z_iload h dX8_isFit_29 rfl ?_
      refine z_iload_n h dX8_isFit_31 rfl ?_
      refine z_iload h dX8_isFit_32 rfl ?_
      refine z_cSi2 h dX8_isFit_34 lX8_167 vX8_has (c_X8_has σ set t hs (by omega)) rfl (Nat.le_of_ble_eq_true rfl) (by decide) (fun v σ1 g5 => ?_)
      obtain ⟨g5, g5'⟩ := g5
      rw [g5']
      have g6 : (v = 1 ∧ set.testBit t = true) ∨ (v = 0 ∧ set.testBit t = false) := by (cases hb : set.testBit t <;> rw [hb] at g5 <;> simp [g5, zb])
      refine z_icmp_eq h dX8_isFit_37 (by omega) (by omega) (fun b37 => ?_) (fun b37 => ?_)
      · refine z_iconst h dX8_isFit_44 ?_
        refine z_ist1 h dX8_isFit_45 (by decide) (zst1_5 rfl) ?_
        refine z_raload_n h dX8_isFit_47 rfl ?_
        refine z_getr h dX8_isFit_48 fX8_52 L57 rfl ?_
        refine z_bipush h dX8_isFit_51 (by decide) ?_
        refine z_iload h dX8_isFit_53 rfl ?_
        refine z_if_eq h dX8_isFit_55 (by omega) (fun b55 => ?_) (fun b55 => ?_)
        · refine z_iload_n h dX8_isFit_63 rfl ?_
          refine z_iadd h dX8_isFit_64 ?_
          refine z_iald h dX8_isFit_65 L72 (by decide) (by omega) ?_
          refine z_ist1 h dX8_isFit_66 (by decide) (zst1_8 rfl) ?_
          refine z_iload h dX8_isFit_68 rfl ?_
          refine z_iload h dX8_isFit_70 rfl ?_
          refine z_if_eq h dX8_isFit_72 (by omega) (fun b72 => ?_) (fun b72 => ?_)
          · refine z_iconst h dX8_isFit_79 ?_
            refine z_isub h dX8_isFit_80 ?_
            refine z_ist1 h dX8_isFit_81 (by decide) (zst1_4 rfl) ?_
            refine z_iload_n h dX8_isFit_83 rfl ?_
            refine z_iload h dX8_isFit_84 rfl ?_
            refine z_if_eq h dX8_isFit_86 (by omega) (fun b86 => ?_) (fun b86 => ?_)
            · refine z_iconst h dX8_isFit_93 ?_
              refine z_iadd h dX8_isFit_94 ?_
              refine z_ist1_n h dX8_isFit_95 (by decide) (zst1_3 rfl) ?_
              refine z_iload h dX8_isFit_96 rfl ?_
              refine z_if_eq h dX8_isFit_98 (by omega) (fun b98 => ?_) (fun b98 => ?_)
              · refine z_iconst h dX8_isFit_140 ?_
                refine z_ist1 h dX8_isFit_141 (by decide) (zst1_6 rfl) ?_
                refine z_iinc h dX8_isFit_143 (by decide) rfl (zst1_7 rfl) ?_
                refine z_goto h dX8_isFit_146 ?_
                rw [show (t : Int) + 1 = ((t + 1 : Nat) : Int) by omega]
                first
                  | (exfalso; omega)
                  | (simp only [Int.sub_zero, Int.add_zero]; exact nx 1 1 _ (Or.inr rfl) (by rcases g6 with ⟨g6, g7⟩ | ⟨g6, g7⟩ <;> rw [g7] <;> simp <;> omega) (Or.inl ⟨rfl, by omega, by first | exact Or.inl (by omega) | (have := dsv (by omega); right; omega)⟩))
                  | (simp only [Int.sub_zero, Int.add_zero]; exact nx 1 0 _ (Or.inr rfl) (by rcases g6 with ⟨g6, g7⟩ | ⟨g6, g7⟩ <;> rw [g7] <;> simp <;> omega) (Or.inr ⟨rfl, by first | exact Or.inl (by omega) | (have := dsv (by omega); right; omega)⟩))
                  | (simp only [Int.sub_zero, Int.add_zero]; exact nx 0 1 _ (Or.inl rfl) (by rcases g6 with ⟨g6, g7⟩ | ⟨g6, g7⟩ <;> rw [g7] <;> simp <;> omega) (Or.inl ⟨rfl, by omega, by first | exact Or.inl (by omega) | (have := dsv (by omega); right; omega)⟩))
                  | (simp only [Int.sub_zero, Int.add_zero]; exact nx 0 0 _ (Or.inl rfl) (by rcases g6 with ⟨g6, g7⟩ | ⟨g6, g7⟩ <;> rw [g7] <;> simp <;> omega) (Or.inr ⟨rfl, by first | exact Or.inl (by omega) | (have := dsv (by omega); right; omega)⟩))
              · refine z_iload h dX8_isFit_101 rfl ?_
                refine z_raload_n h dX8_isFit_103 rfl ?_
                refine z_getr h dX8_isFit_104 fX8_49 L57 rfl ?_
                refine z_iconst h dX8_isFit_107 ?_
                refine z_iald h dX8_isFit_108 L71 (by decide) (by omega) ?_
                refine z_icmp_ge h dX8_isFit_109 (by omega) (by omega) (fun b109 => ?_) (fun b109 => ?_)
                · refine z_iconst h dX8_isFit_136 ?_
                  refine z_goto h dX8_isFit_137 ?_
                  refine z_ist1 h dX8_isFit_141 (by decide) (zst1_6 rfl) ?_
                  refine z_iinc h dX8_isFit_143 (by decide) rfl (zst1_7 rfl) ?_
                  refine z_goto h dX8_isFit_146 ?_
                  rw [show (t : Int) + 1 = ((t + 1 : Nat) : Int) by omega]
                  first
                    | (exfalso; omega)
                    | (simp only [Int.sub_zero, Int.add_zero]; exact nx 1 1 _ (Or.inr rfl) (by rcases g6 with ⟨g6, g7⟩ | ⟨g6, g7⟩ <;> rw [g7] <;> simp <;> omega) (Or.inl ⟨rfl, by omega, by first | exact Or.inl (by omega) | (have := dsv (by omega); right; omega)⟩))
                    | (simp only [Int.sub_zero, Int.add_zero]; exact nx 1 0 _ (Or.inr rfl) (by rcases g6 with ⟨g6, g7⟩ | ⟨g6, g7⟩ <;> rw [g7] <;> simp <;> omega) (Or.inr ⟨rfl, by first | exact Or.inl (by omega) | (have := dsv (by omega); right; omega)⟩))
                    | (simp only [Int.sub_zero, Int.add_zero]; exact nx 0 1 _ (Or.inl rfl) (by rcases g6 with ⟨g6, g7⟩ | ⟨g6, g7⟩ <;> rw [g7] <;> simp <;> omega) (Or.inl ⟨rfl, by omega, by first | exact Or.inl (by omega) | (have := dsv (by omega); right; omega)⟩))
                    | (simp only [Int.sub_zero, Int.add_zero]; exact nx 0 0 _ (Or.inl rfl) (by rcases g6 with ⟨g6, g7⟩ | ⟨g6, g7⟩ <;> rw [g7] <;> simp <;> omega) (Or.inr ⟨rfl, by first | exact Or.inl (by omega) | (have := dsv (by omega); right; omega)⟩))
                · refine z_raload_n h dX8_isFit_112 rfl ?_
                  refine z_getr h dX8_isFit_113 fX8_52 L57 rfl ?_
                  refine z_iload h dX8_isFit_116 rfl ?_
                  refine z_iald h dX8_isFit_118 L72 (by decide) (by omega) ?_
                  refine z_bipush h dX8_isFit_119 (by decide) ?_
                  refine z_icmp_eq h dX8_isFit_121 (by omega) (by omega) (fun b121 => ?_) (fun b121 => ?_)
                  · refine z_iconst h dX8_isFit_136 ?_
                    refine z_goto h dX8_isFit_137 ?_
                    refine z_ist1 h dX8_isFit_141 (by decide) (zst1_6 rfl) ?_
                    refine z_iinc h dX8_isFit_143 (by decide) rfl (zst1_7 rfl) ?_
                    refine z_goto h dX8_isFit_146 ?_
                    rw [show (t : Int) + 1 = ((t + 1 : Nat) : Int) by omega]
                    first
                      | (exfalso; omega)
                      | (simp only [Int.sub_zero, Int.add_zero]; exact nx 1 1 _ (Or.inr rfl) (by rcases g6 with ⟨g6, g7⟩ | ⟨g6, g7⟩ <;> rw [g7] <;> simp <;> omega) (Or.inl ⟨rfl, by omega, by first | exact Or.inl (by omega) | (have := dsv (by omega); right; omega)⟩))
                      | (simp only [Int.sub_zero, Int.add_zero]; exact nx 1 0 _ (Or.inr rfl) (by rcases g6 with ⟨g6, g7⟩ | ⟨g6, g7⟩ <;> rw [g7] <;> simp <;> omega) (Or.inr ⟨rfl, by first | exact Or.inl (by omega) | (have := dsv (by omega); right; omega)⟩))
                      | (simp only [Int.sub_zero, Int.add_zero]; exact nx 0 1 _ (Or.inl rfl) (by rcases g6 with ⟨g6, g7⟩ | ⟨g6, g7⟩ <;> rw [g7] <;> simp <;> omega) (Or.inl ⟨rfl, by omega, by first | exact Or.inl (by omega) | (have := dsv (by omega); right; omega)⟩))
                      | (simp only [Int.sub_zero, Int.add_zero]; exact nx 0 0 _ (Or.inl rfl) (by rcases g6 with ⟨g6, g7⟩ | ⟨g6, g7⟩ <;> rw [g7] <;> simp <;> omega) (Or.inr ⟨rfl, by first | exact Or.inl (by omega) | (have := dsv (by omega); right; omega)⟩))
                  · refine z_raload_n h dX8_isFit_124 rfl ?_
                    refine z_getr h dX8_isFit_125 fX8_52 L57 rfl ?_
                    refine z_iload h dX8_isFit_128 rfl ?_
                    refine z_iald h dX8_isFit_130 L72 (by decide) (by omega) ?_
                    refine z_iload h dX8_isFit_131 rfl ?_
                    refine z_icmp_ne h dX8_isFit_133 (by omega) (by omega) (fun b133 => ?_) (fun b133 => ?_)
                    · refine z_iconst h dX8_isFit_140 ?_
                      refine z_ist1 h dX8_isFit_141 (by decide) (zst1_6 rfl) ?_
                      refine z_iinc h dX8_isFit_143 (by decide) rfl (zst1_7 rfl) ?_
                      refine z_goto h dX8_isFit_146 ?_
                      rw [show (t : Int) + 1 = ((t + 1 : Nat) : Int) by omega]
                      first
                        | (exfalso; omega)
                        | (simp only [Int.sub_zero, Int.add_zero]; exact nx 1 1 _ (Or.inr rfl) (by rcases g6 with ⟨g6, g7⟩ | ⟨g6, g7⟩ <;> rw [g7] <;> simp <;> omega) (Or.inl ⟨rfl, by omega, by first | exact Or.inl (by omega) | (have := dsv (by omega); right; omega)⟩))
                        | (simp only [Int.sub_zero, Int.add_zero]; exact nx 1 0 _ (Or.inr rfl) (by rcases g6 with ⟨g6, g7⟩ | ⟨g6, g7⟩ <;> rw [g7] <;> simp <;> omega) (Or.inr ⟨rfl, by first | exact Or.inl (by omega) | (have := dsv (by omega); right; omega)⟩))
                        | (simp only [Int.sub_zero, Int.add_zero]; exact nx 0 1 _ (Or.inl rfl) (by rcases g6 with ⟨g6, g7⟩ | ⟨g6, g7⟩ <;> rw [g7] <;> simp <;> omega) (Or.inl ⟨rfl, by omega, by first | exact Or.inl (by omega) | (have := dsv (by omega); right; omega)⟩))
                        | (simp only [Int.sub_zero, Int.add_zero]; exact nx 0 0 _ (Or.inl rfl) (by rcases g6 with ⟨g6, g7⟩ | ⟨g6, g7⟩ <;> rw [g7] <;> simp <;> omega) (Or.inr ⟨rfl, by first | exact Or.inl (by omega) | (have := dsv (by omega); right; omega)⟩))
                    · refine z_iconst h dX8_isFit_136 ?_
                      refine z_goto h dX8_isFit_137 ?_
                      refine z_ist1 h dX8_isFit_141 (by decide) (zst1_6 rfl) ?_
                      refine z_iinc h dX8_isFit_143 (by decide) rfl (zst1_7 rfl) ?_
                      refine z_goto h dX8_isFit_146 ?_
                      rw [show (t : Int) + 1 = ((t + 1 : Nat) : Int) by omega]
                      first
                        | (exfalso; omega)
                        | (simp only [Int.sub_zero, Int.add_zero]; exact nx 1 1 _ (Or.inr rfl) (by rcases g6 with ⟨g6, g7⟩ | ⟨g6, g7⟩ <;> rw [g7] <;> simp <;> omega) (Or.inl ⟨rfl, by omega, by first | exact Or.inl (by omega) | (have := dsv (by omega); right; omega)⟩))
                        | (simp only [Int.sub_zero, Int.add_zero]; exact nx 1 0 _ (Or.inr rfl) (by rcases g6 with ⟨g6, g7⟩ | ⟨g6, g7⟩ <;> rw [g7] <;> simp <;> omega) (Or.inr ⟨rfl, by first | exact Or.inl (by omega) | (have := dsv (by omega); right; omega)⟩))
                        | (simp only [Int.sub_zero, Int.add_zero]; exact nx 0 1 _ (Or.inl rfl) (by rcases g6 with ⟨g6, g7⟩ | ⟨g6, g7⟩ <;> rw [g7] <;> simp <;> omega) (Or.inl ⟨rfl, by omega, by first | exact Or.inl (by omega) | (have := dsv (by omega); right; omega)⟩))
                        | (simp only [Int.sub_zero, Int.add_zero]; exact nx 0 0 _ (Or.inl rfl) (by rcases g6 with ⟨g6, g7⟩ | ⟨g6, g7⟩ <;> rw [g7] <;> simp <;> omega) (Or.inr ⟨rfl, by first | exact Or.inl (by omega) | (have := dsv (by omega); right; omega)⟩))
            · refine z_iconst h dX8_isFit_89 ?_
              refine z_goto h dX8_isFit_90 ?_
              refine z_iadd h dX8_isFit_94 ?_
              refine z_ist1_n h dX8_isFit_95 (by decide) (zst1_3 rfl) ?_
              refine z_iload h dX8_isFit_96 rfl ?_
              refine z_if_eq h dX8_isFit_98 (by omega) (fun b98 => ?_) (fun b98 => ?_)
              · refine z_iconst h dX8_isFit_140 ?_
                refine z_ist1 h dX8_isFit_141 (by decide) (zst1_6 rfl) ?_
                refine z_iinc h dX8_isFit_143 (by decide) rfl (zst1_7 rfl) ?_
                refine z_goto h dX8_isFit_146 ?_
                rw [show (t : Int) + 1 = ((t + 1 : Nat) : Int) by omega]
                first
                  | (exfalso; omega)
                  | (simp only [Int.sub_zero, Int.add_zero]; exact nx 1 1 _ (Or.inr rfl) (by rcases g6 with ⟨g6, g7⟩ | ⟨g6, g7⟩ <;> rw [g7] <;> simp <;> omega) (Or.inl ⟨rfl, by omega, by first | exact Or.inl (by omega) | (have := dsv (by omega); right; omega)⟩))
                  | (simp only [Int.sub_zero, Int.add_zero]; exact nx 1 0 _ (Or.inr rfl) (by rcases g6 with ⟨g6, g7⟩ | ⟨g6, g7⟩ <;> rw [g7] <;> simp <;> omega) (Or.inr ⟨rfl, by first | exact Or.inl (by omega) | (have := dsv (by omega); right; omega)⟩))
                  | (simp only [Int.sub_zero, Int.add_zero]; exact nx 0 1 _ (Or.inl rfl) (by rcases g6 with ⟨g6, g7⟩ | ⟨g6, g7⟩ <;> rw [g7] <;> simp <;> omega) (Or.inl ⟨rfl, by omega, by first | exact Or.inl (by omega) | (have := dsv (by omega); right; omega)⟩))
                  | (simp only [Int.sub_zero, Int.add_zero]; exact nx 0 0 _ (Or.inl rfl) (by rcases g6 with ⟨g6, g7⟩ | ⟨g6, g7⟩ <;> rw [g7] <;> simp <;> omega) (Or.inr ⟨rfl, by first | exact Or.inl (by omega) | (have := dsv (by omega); right; omega)⟩))
              · refine z_iload h dX8_isFit_101 rfl ?_
                refine z_raload_n h dX8_isFit_103 rfl ?_
                refine z_getr h dX8_isFit_104 fX8_49 L57 rfl ?_
                refine z_iconst h dX8_isFit_107 ?_
                refine z_iald h dX8_isFit_108 L71 (by decide) (by omega) ?_
                refine z_icmp_ge h dX8_isFit_109 (by omega) (by omega) (fun b109 => ?_) (fun b109 => ?_)
                · refine z_iconst h dX8_isFit_136 ?_
                  refine z_goto h dX8_isFit_137 ?_
                  refine z_ist1 h dX8_isFit_141 (by decide) (zst1_6 rfl) ?_
                  refine z_iinc h dX8_isFit_143 (by decide) rfl (zst1_7 rfl) ?_
                  refine z_goto h dX8_isFit_146 ?_
                  rw [show (t : Int) + 1 = ((t + 1 : Nat) : Int) by omega]
                  first
                    | (exfalso; omega)
                    | (simp only [Int.sub_zero, Int.add_zero]; exact nx 1 1 _ (Or.inr rfl) (by rcases g6 with ⟨g6, g7⟩ | ⟨g6, g7⟩ <;> rw [g7] <;> simp <;> omega) (Or.inl ⟨rfl, by omega, by first | exact Or.inl (by omega) | (have := dsv (by omega); right; omega)⟩))
                    | (simp only [Int.sub_zero, Int.add_zero]; exact nx 1 0 _ (Or.inr rfl) (by rcases g6 with ⟨g6, g7⟩ | ⟨g6, g7⟩ <;> rw [g7] <;> simp <;> omega) (Or.inr ⟨rfl, by first | exact Or.inl (by omega) | (have := dsv (by omega); right; omega)⟩))
                    | (simp only [Int.sub_zero, Int.add_zero]; exact nx 0 1 _ (Or.inl rfl) (by rcases g6 with ⟨g6, g7⟩ | ⟨g6, g7⟩ <;> rw [g7] <;> simp <;> omega) (Or.inl ⟨rfl, by omega, by first | exact Or.inl (by omega) | (have := dsv (by omega); right; omega)⟩))
                    | (simp only [Int.sub_zero, Int.add_zero]; exact nx 0 0 _ (Or.inl rfl) (by rcases g6 with ⟨g6, g7⟩ | ⟨g6, g7⟩ <;> rw [g7] <;> simp <;> omega) (Or.inr ⟨rfl, by first | exact Or.inl (by omega) | (have := dsv (by omega); right; omega)⟩))
                · refine z_raload_n h dX8_isFit_112 rfl ?_
                  refine z_getr h dX8_isFit_113 fX8_52 L57 rfl ?_
                  refine z_iload h dX8_isFit_116 rfl ?_
                  refine z_iald h dX8_isFit_118 L72 (by decide) (by omega) ?_
                  refine z_bipush h dX8_isFit_119 (by decide) ?_
                  refine z_icmp_eq h dX8_isFit_121 (by omega) (by omega) (fun b121 => ?_) (fun b121 => ?_)
                  · refine z_iconst h dX8_isFit_136 ?_
                    refine z_goto h dX8_isFit_137 ?_
                    refine z_ist1 h dX8_isFit_141 (by decide) (zst1_6 rfl) ?_
                    refine z_iinc h dX8_isFit_143 (by decide) rfl (zst1_7 rfl) ?_
                    refine z_goto h dX8_isFit_146 ?_
                    rw [show (t : Int) + 1 = ((t + 1 : Nat) : Int) by omega]
                    first
                      | (exfalso; omega)
                      | (simp only [Int.sub_zero, Int.add_zero]; exact nx 1 1 _ (Or.inr rfl) (by rcases g6 with ⟨g6, g7⟩ | ⟨g6, g7⟩ <;> rw [g7] <;> simp <;> omega) (Or.inl ⟨rfl, by omega, by first | exact Or.inl (by omega) | (have := dsv (by omega); right; omega)⟩))
                      | (simp only [Int.sub_zero, Int.add_zero]; exact nx 1 0 _ (Or.inr rfl) (by rcases g6 with ⟨g6, g7⟩ | ⟨g6, g7⟩ <;> rw [g7] <;> simp <;> omega) (Or.inr ⟨rfl, by first | exact Or.inl (by omega) | (have := dsv (by omega); right; omega)⟩))
                      | (simp only [Int.sub_zero, Int.add_zero]; exact nx 0 1 _ (Or.inl rfl) (by rcases g6 with ⟨g6, g7⟩ | ⟨g6, g7⟩ <;> rw [g7] <;> simp <;> omega) (Or.inl ⟨rfl, by omega, by first | exact Or.inl (by omega) | (have := dsv (by omega); right; omega)⟩))
                      | (simp only [Int.sub_zero, Int.add_zero]; exact nx 0 0 _ (Or.inl rfl) (by rcases g6 with ⟨g6, g7⟩ | ⟨g6, g7⟩ <;> rw [g7] <;> simp <;> omega) (Or.inr ⟨rfl, by first | exact Or.inl (by omega) | (have := dsv (by omega); right; omega)⟩))
                  · refine z_raload_n h dX8_isFit_124 rfl ?_
                    refine z_getr h dX8_isFit_125 fX8_52 L57 rfl ?_
                    refine z_iload h dX8_isFit_128 rfl ?_
                    refine z_iald h dX8_isFit_130 L72 (by decide) (by omega) ?_
                    refine z_iload h dX8_isFit_131 rfl ?_
                    refine z_icmp_ne h dX8_isFit_133 (by omega) (by omega) (fun b133 => ?_) (fun b133 => ?_)
                    · refine z_iconst h dX8_isFit_140 ?_
                      refine z_ist1 h dX8_isFit_141 (by decide) (zst1_6 rfl) ?_
                      refine z_iinc h dX8_isFit_143 (by decide) rfl (zst1_7 rfl) ?_
                      refine z_goto h dX8_isFit_146 ?_
                      rw [show (t : Int) + 1 = ((t + 1 : Nat) : Int) by omega]
                      first
                        | (exfalso; omega)
                        | (simp only [Int.sub_zero, Int.add_zero]; exact nx 1 1 _ (Or.inr rfl) (by rcases g6 with ⟨g6, g7⟩ | ⟨g6, g7⟩ <;> rw [g7] <;> simp <;> omega) (Or.inl ⟨rfl, by omega, by first | exact Or.inl (by omega) | (have := dsv (by omega); right; omega)⟩))
                        | (simp only [Int.sub_zero, Int.add_zero]; exact nx 1 0 _ (Or.inr rfl) (by rcases g6 with ⟨g6, g7⟩ | ⟨g6, g7⟩ <;> rw [g7] <;> simp <;> omega) (Or.inr ⟨rfl, by first | exact Or.inl (by omega) | (have := dsv (by omega); right; omega)⟩))
                        | (simp only [Int.sub_zero, Int.add_zero]; exact nx 0 1 _ (Or.inl rfl) (by rcases g6 with ⟨g6, g7⟩ | ⟨g6, g7⟩ <;> rw [g7] <;> simp <;> omega) (Or.inl ⟨rfl, by omega, by first | exact Or.inl (by omega) | (have := dsv (by omega); right; omega)⟩))
                        | (simp only [Int.sub_zero, Int.add_zero]; exact nx 0 0 _ (Or.inl rfl) (by rcases g6 with ⟨g6, g7⟩ | ⟨g6, g7⟩ <;> rw [g7] <;> simp <;> omega) (Or.inr ⟨rfl, by first | exact Or.inl (by omega) | (have := dsv (by omega); right; omega)⟩))
                    · refine z_iconst h dX8_isFit_136 ?_
                      refine z_goto h dX8_isFit_137 ?_
                      refine z_ist1 h dX8_isFit_141 (by decide) (zst1_6 rfl) ?_
                      refine z_iinc h dX8_isFit_143 (by decide) rfl (zst1_7 rfl) ?_
                      refine z_goto h dX8_isFit_146 ?_
                      rw [show (t : Int) + 1 = ((t + 1 : Nat) : Int) by omega]
                      first
                        | (exfalso; omega)
                        | (simp only [Int.sub_zero, Int.add_zero]; exact nx 1 1 _ (Or.inr rfl) (by rcases g6 with ⟨g6, g7⟩ | ⟨g6, g7⟩ <;> rw [g7] <;> simp <;> omega) (Or.inl ⟨rfl, by omega, by first | exact Or.inl (by omega) | (have := dsv (by omega); right; omega)⟩))
                        | (simp only [Int.sub_zero, Int.add_zero]; exact nx 1 0 _ (Or.inr rfl) (by rcases g6 with ⟨g6, g7⟩ | ⟨g6, g7⟩ <;> rw [g7] <;> simp <;> omega) (Or.inr ⟨rfl, by first | exact Or.inl (by omega) | (have := dsv (by omega); right; omega)⟩))
                        | (simp only [Int.sub_zero, Int.add_zero]; exact nx 0 1 _ (Or.inl rfl) (by rcases g6 with ⟨g6, g7⟩ | ⟨g6, g7⟩ <;> rw [g7] <;> simp <;> omega) (Or.inl ⟨rfl, by omega, by first | exact Or.inl (by omega) | (have := dsv (by omega); right; omega)⟩))
                        | (simp only [Int.sub_zero, Int.add_zero]; exact nx 0 0 _ (Or.inl rfl) (by rcases g6 with ⟨g6, g7⟩ | ⟨g6, g7⟩ <;> rw [g7] <;> simp <;> omega) (Or.inr ⟨rfl, by first | exact Or.inl (by omega) | (have := dsv (by omega); right; omega)⟩))
          · refine z_iconst h dX8_isFit_75 ?_
            refine z_goto h dX8_isFit_76 ?_
            refine z_isub h dX8_isFit_80 ?_
            refine z_ist1 h dX8_isFit_81 (by decide) (zst1_4 rfl) ?_
            refine z_iload_n h dX8_isFit_83 rfl ?_
            refine z_iload h dX8_isFit_84 rfl ?_
            refine z_if_eq h dX8_isFit_86 (by omega) (fun b86 => ?_) (fun b86 => ?_)
            · refine z_iconst h dX8_isFit_93 ?_
              refine z_iadd h dX8_isFit_94 ?_
              refine z_ist1_n h dX8_isFit_95 (by decide) (zst1_3 rfl) ?_
              refine z_iload h dX8_isFit_96 rfl ?_
              refine z_if_eq h dX8_isFit_98 (by omega) (fun b98 => ?_) (fun b98 => ?_)
              · refine z_iconst h dX8_isFit_140 ?_
                refine z_ist1 h dX8_isFit_141 (by decide) (zst1_6 rfl) ?_
                refine z_iinc h dX8_isFit_143 (by decide) rfl (zst1_7 rfl) ?_
                refine z_goto h dX8_isFit_146 ?_
                rw [show (t : Int) + 1 = ((t + 1 : Nat) : Int) by omega]
                first
                  | (exfalso; omega)
                  | (simp only [Int.sub_zero, Int.add_zero]; exact nx 1 1 _ (Or.inr rfl) (by rcases g6 with ⟨g6, g7⟩ | ⟨g6, g7⟩ <;> rw [g7] <;> simp <;> omega) (Or.inl ⟨rfl, by omega, by first | exact Or.inl (by omega) | (have := dsv (by omega); right; omega)⟩))
                  | (simp only [Int.sub_zero, Int.add_zero]; exact nx 1 0 _ (Or.inr rfl) (by rcases g6 with ⟨g6, g7⟩ | ⟨g6, g7⟩ <;> rw [g7] <;> simp <;> omega) (Or.inr ⟨rfl, by first | exact Or.inl (by omega) | (have := dsv (by omega); right; omega)⟩))
                  | (simp only [Int.sub_zero, Int.add_zero]; exact nx 0 1 _ (Or.inl rfl) (by rcases g6 with ⟨g6, g7⟩ | ⟨g6, g7⟩ <;> rw [g7] <;> simp <;> omega) (Or.inl ⟨rfl, by omega, by first | exact Or.inl (by omega) | (have := dsv (by omega); right; omega)⟩))
                  | (simp only [Int.sub_zero, Int.add_zero]; exact nx 0 0 _ (Or.inl rfl) (by rcases g6 with ⟨g6, g7⟩ | ⟨g6, g7⟩ <;> rw [g7] <;> simp <;> omega) (Or.inr ⟨rfl, by first | exact Or.inl (by omega) | (have := dsv (by omega); right; omega)⟩))
              · refine z_iload h dX8_isFit_101 rfl ?_
                refine z_raload_n h dX8_isFit_103 rfl ?_
                refine z_getr h dX8_isFit_104 fX8_49 L57 rfl ?_
                refine z_iconst h dX8_isFit_107 ?_
                refine z_iald h dX8_isFit_108 L71 (by decide) (by omega) ?_
                refine z_icmp_ge h dX8_isFit_109 (by omega) (by omega) (fun b109 => ?_) (fun b109 => ?_)
                · refine z_iconst h dX8_isFit_136 ?_
                  refine z_goto h dX8_isFit_137 ?_
                  refine z_ist1 h dX8_isFit_141 (by decide) (zst1_6 rfl) ?_
                  refine z_iinc h dX8_isFit_143 (by decide) rfl (zst1_7 rfl) ?_
                  refine z_goto h dX8_isFit_146 ?_
                  rw [show (t : Int) + 1 = ((t + 1 : Nat) : Int) by omega]
                  first
                    | (exfalso; omega)
                    | (simp only [Int.sub_zero, Int.add_zero]; exact nx 1 1 _ (Or.inr rfl) (by rcases g6 with ⟨g6, g7⟩ | ⟨g6, g7⟩ <;> rw [g7] <;> simp <;> omega) (Or.inl ⟨rfl, by omega, by first | exact Or.inl (by omega) | (have := dsv (by omega); right; omega)⟩))
                    | (simp only [Int.sub_zero, Int.add_zero]; exact nx 1 0 _ (Or.inr rfl) (by rcases g6 with ⟨g6, g7⟩ | ⟨g6, g7⟩ <;> rw [g7] <;> simp <;> omega) (Or.inr ⟨rfl, by first | exact Or.inl (by omega) | (have := dsv (by omega); right; omega)⟩))
                    | (simp only [Int.sub_zero, Int.add_zero]; exact nx 0 1 _ (Or.inl rfl) (by rcases g6 with ⟨g6, g7⟩ | ⟨g6, g7⟩ <;> rw [g7] <;> simp <;> omega) (Or.inl ⟨rfl, by omega, by first | exact Or.inl (by omega) | (have := dsv (by omega); right; omega)⟩))
                    | (simp only [Int.sub_zero, Int.add_zero]; exact nx 0 0 _ (Or.inl rfl) (by rcases g6 with ⟨g6, g7⟩ | ⟨g6, g7⟩ <;> rw [g7] <;> simp <;> omega) (Or.inr ⟨rfl, by first | exact Or.inl (by omega) | (have := dsv (by omega); right; omega)⟩))
                · refine z_raload_n h dX8_isFit_112 rfl ?_
                  refine z_getr h dX8_isFit_113 fX8_52 L57 rfl ?_
                  refine z_iload h dX8_isFit_116 rfl ?_
                  refine z_iald h dX8_isFit_118 L72 (by decide) (by omega) ?_
                  refine z_bipush h dX8_isFit_119 (by decide) ?_
                  refine z_icmp_eq h dX8_isFit_121 (by omega) (by omega) (fun b121 => ?_) (fun b121 => ?_)
                  · refine z_iconst h dX8_isFit_136 ?_
                    refine z_goto h dX8_isFit_137 ?_
                    refine z_ist1 h dX8_isFit_141 (by decide) (zst1_6 rfl) ?_
                    refine z_iinc h dX8_isFit_143 (by decide) rfl (zst1_7 rfl) ?_
                    refine z_goto h dX8_isFit_146 ?_
                    rw [show (t : Int) + 1 = ((t + 1 : Nat) : Int) by omega]
                    first
                      | (exfalso; omega)
                      | (simp only [Int.sub_zero, Int.add_zero]; exact nx 1 1 _ (Or.inr rfl) (by rcases g6 with ⟨g6, g7⟩ | ⟨g6, g7⟩ <;> rw [g7] <;> simp <;> omega) (Or.inl ⟨rfl, by omega, by first | exact Or.inl (by omega) | (have := dsv (by omega); right; omega)⟩))
                      | (simp only [Int.sub_zero, Int.add_zero]; exact nx 1 0 _ (Or.inr rfl) (by rcases g6 with ⟨g6, g7⟩ | ⟨g6, g7⟩ <;> rw [g7] <;> simp <;> omega) (Or.inr ⟨rfl, by first | exact Or.inl (by omega) | (have := dsv (by omega); right; omega)⟩))
                      | (simp only [Int.sub_zero, Int.add_zero]; exact nx 0 1 _ (Or.inl rfl) (by rcases g6 with ⟨g6, g7⟩ | ⟨g6, g7⟩ <;> rw [g7] <;> simp <;> omega) (Or.inl ⟨rfl, by omega, by first | exact Or.inl (by omega) | (have := dsv (by omega); right; omega)⟩))
                      | (simp only [Int.sub_zero, Int.add_zero]; exact nx 0 0 _ (Or.inl rfl) (by rcases g6 with ⟨g6, g7⟩ | ⟨g6, g7⟩ <;> rw [g7] <;> simp <;> omega) (Or.inr ⟨rfl, by first | exact Or.inl (by omega) | (have := dsv (by omega); right; omega)⟩))
                  · refine z_raload_n h dX8_isFit_124 rfl ?_
                    refine z_getr h dX8_isFit_125 fX8_52 L57 rfl ?_
                    refine z_iload h dX8_isFit_128 rfl ?_
                    refine z_iald h dX8_isFit_130 L72 (by decide) (by omega) ?_
                    refine z_iload h dX8_isFit_131 rfl ?_
                    refine z_icmp_ne h dX8_isFit_133 (by omega) (by omega) (fun b133 => ?_) (fun b133 => ?_)
                    · refine z_iconst h dX8_isFit_140 ?_
                      refine z_ist1 h dX8_isFit_141 (by decide) (zst1_6 rfl) ?_
                      refine z_iinc h dX8_isFit_143 (by decide) rfl (zst1_7 rfl) ?_
                      refine z_goto h dX8_isFit_146 ?_
                      rw [show (t : Int) + 1 = ((t + 1 : Nat) : Int) by omega]
                      first
                        | (exfalso; omega)
                        | (simp only [Int.sub_zero, Int.add_zero]; exact nx 1 1 _ (Or.inr rfl) (by rcases g6 with ⟨g6, g7⟩ | ⟨g6, g7⟩ <;> rw [g7] <;> simp <;> omega) (Or.inl ⟨rfl, by omega, by first | exact Or.inl (by omega) | (have := dsv (by omega); right; omega)⟩))
                        | (simp only [Int.sub_zero, Int.add_zero]; exact nx 1 0 _ (Or.inr rfl) (by rcases g6 with ⟨g6, g7⟩ | ⟨g6, g7⟩ <;> rw [g7] <;> simp <;> omega) (Or.inr ⟨rfl, by first | exact Or.inl (by omega) | (have := dsv (by omega); right; omega)⟩))
                        | (simp only [Int.sub_zero, Int.add_zero]; exact nx 0 1 _ (Or.inl rfl) (by rcases g6 with ⟨g6, g7⟩ | ⟨g6, g7⟩ <;> rw [g7] <;> simp <;> omega) (Or.inl ⟨rfl, by omega, by first | exact Or.inl (by omega) | (have := dsv (by omega); right; omega)⟩))
                        | (simp only [Int.sub_zero, Int.add_zero]; exact nx 0 0 _ (Or.inl rfl) (by rcases g6 with ⟨g6, g7⟩ | ⟨g6, g7⟩ <;> rw [g7] <;> simp <;> omega) (Or.inr ⟨rfl, by first | exact Or.inl (by omega) | (have := dsv (by omega); right; omega)⟩))
                    · refine z_iconst h dX8_isFit_136 ?_
                      refine z_goto h dX8_isFit_137 ?_
                      refine z_ist1 h dX8_isFit_141 (by decide) (zst1_6 rfl) ?_
                      refine z_iinc h dX8_isFit_143 (by decide) rfl (zst1_7 rfl) ?_
                      refine z_goto h dX8_isFit_146 ?_
                      rw [show (t : Int) + 1 = ((t + 1 : Nat) : Int) by omega]
                      first
                        | (exfalso; omega)
                        | (simp only [Int.sub_zero, Int.add_zero]; exact nx 1 1 _ (Or.inr rfl) (by rcases g6 with ⟨g6, g7⟩ | ⟨g6, g7⟩ <;> rw [g7] <;> simp <;> omega) (Or.inl ⟨rfl, by omega, by first | exact Or.inl (by omega) | (have := dsv (by omega); right; omega)⟩))
                        | (simp only [Int.sub_zero, Int.add_zero]; exact nx 1 0 _ (Or.inr rfl) (by rcases g6 with ⟨g6, g7⟩ | ⟨g6, g7⟩ <;> rw [g7] <;> simp <;> omega) (Or.inr ⟨rfl, by first | exact Or.inl (by omega) | (have := dsv (by omega); right; omega)⟩))
                        | (simp only [Int.sub_zero, Int.add_zero]; exact nx 0 1 _ (Or.inl rfl) (by rcases g6 with ⟨g6, g7⟩ | ⟨g6, g7⟩ <;> rw [g7] <;> simp <;> omega) (Or.inl ⟨rfl, by omega, by first | exact Or.inl (by omega) | (have := dsv (by omega); right; omega)⟩))
                        | (simp only [Int.sub_zero, Int.add_zero]; exact nx 0 0 _ (Or.inl rfl) (by rcases g6 with ⟨g6, g7⟩ | ⟨g6, g7⟩ <;> rw [g7] <;> simp <;> omega) (Or.inr ⟨rfl, by first | exact Or.inl (by omega) | (have := dsv (by omega); right; omega)⟩))
            · refine z_iconst h dX8_isFit_89 ?_
              refine z_goto h dX8_isFit_90 ?_
              refine z_iadd h dX8_isFit_94 ?_
              refine z_ist1_n h dX8_isFit_95 (by decide) (zst1_3 rfl) ?_
              refine z_iload h dX8_isFit_96 rfl ?_
              refine z_if_eq h dX8_isFit_98 (by omega) (fun b98 => ?_) (fun b98 => ?_)
              · refine z_iconst h dX8_isFit_140 ?_
                refine z_ist1 h dX8_isFit_141 (by decide) (zst1_6 rfl) ?_
                refine z_iinc h dX8_isFit_143 (by decide) rfl (zst1_7 rfl) ?_
                refine z_goto h dX8_isFit_146 ?_
                rw [show (t : Int) + 1 = ((t + 1 : Nat) : Int) by omega]
                first
                  | (exfalso; omega)
                  | (simp only [Int.sub_zero, Int.add_zero]; exact nx 1 1 _ (Or.inr rfl) (by rcases g6 with ⟨g6, g7⟩ | ⟨g6, g7⟩ <;> rw [g7] <;> simp <;> omega) (Or.inl ⟨rfl, by omega, by first | exact Or.inl (by omega) | (have := dsv (by omega); right; omega)⟩))
                  | (simp only [Int.sub_zero, Int.add_zero]; exact nx 1 0 _ (Or.inr rfl) (by rcases g6 with ⟨g6, g7⟩ | ⟨g6, g7⟩ <;> rw [g7] <;> simp <;> omega) (Or.inr ⟨rfl, by first | exact Or.inl (by omega) | (have := dsv (by omega); right; omega)⟩))
                  | (simp only [Int.sub_zero, Int.add_zero]; exact nx 0 1 _ (Or.inl rfl) (by rcases g6 with ⟨g6, g7⟩ | ⟨g6, g7⟩ <;> rw [g7] <;> simp <;> omega) (Or.inl ⟨rfl, by omega, by first | exact Or.inl (by omega) | (have := dsv (by omega); right; omega)⟩))
                  | (simp only [Int.sub_zero, Int.add_zero]; exact nx 0 0 _ (Or.inl rfl) (by rcases g6 with ⟨g6, g7⟩ | ⟨g6, g7⟩ <;> rw [g7] <;> simp <;> omega) (Or.inr ⟨rfl, by first | exact Or.inl (by omega) | (have := dsv (by omega); right; omega)⟩))
              · refine z_iload h dX8_isFit_101 rfl ?_
                refine z_raload_n h dX8_isFit_103 rfl ?_
                refine z_getr h dX8_isFit_104 fX8_49 L57 rfl ?_
                refine z_iconst h dX8_isFit_107 ?_
                refine z_iald h dX8_isFit_108 L71 (by decide) (by omega) ?_
                refine z_icmp_ge h dX8_isFit_109 (by omega) (by omega) (fun b109 => ?_) (fun b109 => ?_)
                · refine z_iconst h dX8_isFit_136 ?_
                  refine z_goto h dX8_isFit_137 ?_
                  refine z_ist1 h dX8_isFit_141 (by decide) (zst1_6 rfl) ?_
                  refine z_iinc h dX8_isFit_143 (by decide) rfl (zst1_7 rfl) ?_
                  refine z_goto h dX8_isFit_146 ?_
                  rw [show (t : Int) + 1 = ((t + 1 : Nat) : Int) by omega]
                  first
                    | (exfalso; omega)
                    | (simp only [Int.sub_zero, Int.add_zero]; exact nx 1 1 _ (Or.inr rfl) (by rcases g6 with ⟨g6, g7⟩ | ⟨g6, g7⟩ <;> rw [g7] <;> simp <;> omega) (Or.inl ⟨rfl, by omega, by first | exact Or.inl (by omega) | (have := dsv (by omega); right; omega)⟩))
                    | (simp only [Int.sub_zero, Int.add_zero]; exact nx 1 0 _ (Or.inr rfl) (by rcases g6 with ⟨g6, g7⟩ | ⟨g6, g7⟩ <;> rw [g7] <;> simp <;> omega) (Or.inr ⟨rfl, by first | exact Or.inl (by omega) | (have := dsv (by omega); right; omega)⟩))
                    | (simp only [Int.sub_zero, Int.add_zero]; exact nx 0 1 _ (Or.inl rfl) (by rcases g6 with ⟨g6, g7⟩ | ⟨g6, g7⟩ <;> rw [g7] <;> simp <;> omega) (Or.inl ⟨rfl, by omega, by first | exact Or.inl (by omega) | (have := dsv (by omega); right; omega)⟩))
                    | (simp only [Int.sub_zero, Int.add_zero]; exact nx 0 0 _ (Or.inl rfl) (by rcases g6 with ⟨g6, g7⟩ | ⟨g6, g7⟩ <;> rw [g7] <;> simp <;> omega) (Or.inr ⟨rfl, by first | exact Or.inl (by omega) | (have := dsv (by omega); right; omega)⟩))
                · refine z_raload_n h dX8_isFit_112 rfl ?_
                  refine z_getr h dX8_isFit_113 fX8_52 L57 rfl ?_
                  refine z_iload h dX8_isFit_116 rfl ?_
                  refine z_iald h dX8_isFit_118 L72 (by decide) (by omega) ?_
                  refine z_bipush h dX8_isFit_119 (by decide) ?_
                  refine z_icmp_eq h dX8_isFit_121 (by omega) (by omega) (fun b121 => ?_) (fun b121 => ?_)
                  · refine z_iconst h dX8_isFit_136 ?_
                    refine z_goto h dX8_isFit_137 ?_
                    refine z_ist1 h dX8_isFit_141 (by decide) (zst1_6 rfl) ?_
                    refine z_iinc h dX8_isFit_143 (by decide) rfl (zst1_7 rfl) ?_
                    refine z_goto h dX8_isFit_146 ?_
                    rw [show (t : Int) + 1 = ((t + 1 : Nat) : Int) by omega]
                    first
                      | (exfalso; omega)
                      | (simp only [Int.sub_zero, Int.add_zero]; exact nx 1 1 _ (Or.inr rfl) (by rcases g6 with ⟨g6, g7⟩ | ⟨g6, g7⟩ <;> rw [g7] <;> simp <;> omega) (Or.inl ⟨rfl, by omega, by first | exact Or.inl (by omega) | (have := dsv (by omega); right; omega)⟩))
                      | (simp only [Int.sub_zero, Int.add_zero]; exact nx 1 0 _ (Or.inr rfl) (by rcases g6 with ⟨g6, g7⟩ | ⟨g6, g7⟩ <;> rw [g7] <;> simp <;> omega) (Or.inr ⟨rfl, by first | exact Or.inl (by omega) | (have := dsv (by omega); right; omega)⟩))
                      | (simp only [Int.sub_zero, Int.add_zero]; exact nx 0 1 _ (Or.inl rfl) (by rcases g6 with ⟨g6, g7⟩ | ⟨g6, g7⟩ <;> rw [g7] <;> simp <;> omega) (Or.inl ⟨rfl, by omega, by first | exact Or.inl (by omega) | (have := dsv (by omega); right; omega)⟩))
                      | (simp only [Int.sub_zero, Int.add_zero]; exact nx 0 0 _ (Or.inl rfl) (by rcases g6 with ⟨g6, g7⟩ | ⟨g6, g7⟩ <;> rw [g7] <;> simp <;> omega) (Or.inr ⟨rfl, by first | exact Or.inl (by omega) | (have := dsv (by omega); right; omega)⟩))
                  · refine z_raload_n h dX8_isFit_124 rfl ?_
                    refine z_getr h dX8_isFit_125 fX8_52 L57 rfl ?_
                    refine z_iload h dX8_isFit_128 rfl ?_
                    refine z_iald h dX8_isFit_130 L72 (by decide) (by omega) ?_
                    refine z_iload h dX8_isFit_131 rfl ?_
                    refine z_icmp_ne h dX8_isFit_133 (by omega) (by omega) (fun b133 => ?_) (fun b133 => ?_)
                    · refine z_iconst h dX8_isFit_140 ?_
                      refine z_ist1 h dX8_isFit_141 (by decide) (zst1_6 rfl) ?_
                      refine z_iinc h dX8_isFit_143 (by decide) rfl (zst1_7 rfl) ?_
                      refine z_goto h dX8_isFit_146 ?_
                      rw [show (t : Int) + 1 = ((t + 1 : Nat) : Int) by omega]
                      first
                        | (exfalso; omega)
                        | (simp only [Int.sub_zero, Int.add_zero]; exact nx 1 1 _ (Or.inr rfl) (by rcases g6 with ⟨g6, g7⟩ | ⟨g6, g7⟩ <;> rw [g7] <;> simp <;> omega) (Or.inl ⟨rfl, by omega, by first | exact Or.inl (by omega) | (have := dsv (by omega); right; omega)⟩))
                        | (simp only [Int.sub_zero, Int.add_zero]; exact nx 1 0 _ (Or.inr rfl) (by rcases g6 with ⟨g6, g7⟩ | ⟨g6, g7⟩ <;> rw [g7] <;> simp <;> omega) (Or.inr ⟨rfl, by first | exact Or.inl (by omega) | (have := dsv (by omega); right; omega)⟩))
                        | (simp only [Int.sub_zero, Int.add_zero]; exact nx 0 1 _ (Or.inl rfl) (by rcases g6 with ⟨g6, g7⟩ | ⟨g6, g7⟩ <;> rw [g7] <;> simp <;> omega) (Or.inl ⟨rfl, by omega, by first | exact Or.inl (by omega) | (have := dsv (by omega); right; omega)⟩))
                        | (simp only [Int.sub_zero, Int.add_zero]; exact nx 0 0 _ (Or.inl rfl) (by rcases g6 with ⟨g6, g7⟩ | ⟨g6, g7⟩ <;> rw [g7] <;> simp <;> omega) (Or.inr ⟨rfl, by first | exact Or.inl (by omega) | (have := dsv (by omega); right; omega)⟩))
                    · refine z_iconst h dX8_isFit_136 ?_
                      refine z_goto h dX8_isFit_137 ?_
                      refine z_ist1 h dX8_isFit_141 (by decide) (zst1_6 rfl) ?_
                      refine z_iinc h dX8_isFit_143 (by decide) rfl (zst1_7 rfl) ?_
                      refine z_goto h dX8_isFit_146 ?_
                      rw [show (t : Int) + 1 = ((t + 1 : Nat) : Int) by omega]
                      first
                        | (exfalso; omega)
                        | (simp only [Int.sub_zero, Int.add_zero]; exact nx 1 1 _ (Or.inr rfl) (by rcases g6 with ⟨g6, g7⟩ | ⟨g6, g7⟩ <;> rw [g7] <;> simp <;> omega) (Or.inl ⟨rfl, by omega, by first | exact Or.inl (by omega) | (have := dsv (by omega); right; omega)⟩))
                        | (simp only [Int.sub_zero, Int.add_zero]; exact nx 1 0 _ (Or.inr rfl) (by rcases g6 with ⟨g6, g7⟩ | ⟨g6, g7⟩ <;> rw [g7] <;> simp <;> omega) (Or.inr ⟨rfl, by first | exact Or.inl (by omega) | (have := dsv (by omega); right; omega)⟩))
                        | (simp only [Int.sub_zero, Int.add_zero]; exact nx 0 1 _ (Or.inl rfl) (by rcases g6 with ⟨g6, g7⟩ | ⟨g6, g7⟩ <;> rw [g7] <;> simp <;> omega) (Or.inl ⟨rfl, by omega, by first | exact Or.inl (by omega) | (have := dsv (by omega); right; omega)⟩))
                        | (simp only [Int.sub_zero, Int.add_zero]; exact nx 0 0 _ (Or.inl rfl) (by rcases g6 with ⟨g6, g7⟩ | ⟨g6, g7⟩ <;> rw [g7] <;> simp <;> omega) (Or.inr ⟨rfl, by first | exact Or.inl (by omega) | (have := dsv (by omega); right; omega)⟩))
        · refine z_iload h dX8_isFit_58 rfl ?_
          refine z_goto h dX8_isFit_60 ?_
          refine z_iadd h dX8_isFit_64 ?_
          refine z_iald h dX8_isFit_65 L72 (by decide) (by omega) ?_
          refine z_ist1 h dX8_isFit_66 (by decide) (zst1_8 rfl) ?_
          refine z_iload h dX8_isFit_68 rfl ?_
          refine z_iload h dX8_isFit_70 rfl ?_
          refine z_if_eq h dX8_isFit_72 (by omega) (fun b72 => ?_) (fun b72 => ?_)
          · refine z_iconst h dX8_isFit_79 ?_
            refine z_isub h dX8_isFit_80 ?_
            refine z_ist1 h dX8_isFit_81 (by decide) (zst1_4 rfl) ?_
            refine z_iload_n h dX8_isFit_83 rfl ?_
            refine z_iload h dX8_isFit_84 rfl ?_
            refine z_if_eq h dX8_isFit_86 (by omega) (fun b86 => ?_) (fun b86 => ?_)
            · refine z_iconst h dX8_isFit_93 ?_
              refine z_iadd h dX8_isFit_94 ?_
              refine z_ist1_n h dX8_isFit_95 (by decide) (zst1_3 rfl) ?_
              refine z_iload h dX8_isFit_96 rfl ?_
              refine z_if_eq h dX8_isFit_98 (by omega) (fun b98 => ?_) (fun b98 => ?_)
              · refine z_iconst h dX8_isFit_140 ?_
                refine z_ist1 h dX8_isFit_141 (by decide) (zst1_6 rfl) ?_
                refine z_iinc h dX8_isFit_143 (by decide) rfl (zst1_7 rfl) ?_
                refine z_goto h dX8_isFit_146 ?_
                rw [show (t : Int) + 1 = ((t + 1 : Nat) : Int) by omega]
                first
                  | (exfalso; omega)
                  | (simp only [Int.sub_zero, Int.add_zero]; exact nx 1 1 _ (Or.inr rfl) (by rcases g6 with ⟨g6, g7⟩ | ⟨g6, g7⟩ <;> rw [g7] <;> simp <;> omega) (Or.inl ⟨rfl, by omega, by first | exact Or.inl (by omega) | (have := dsv (by omega); right; omega)⟩))
                  | (simp only [Int.sub_zero, Int.add_zero]; exact nx 1 0 _ (Or.inr rfl) (by rcases g6 with ⟨g6, g7⟩ | ⟨g6, g7⟩ <;> rw [g7] <;> simp <;> omega) (Or.inr ⟨rfl, by first | exact Or.inl (by omega) | (have := dsv (by omega); right; omega)⟩))
                  | (simp only [Int.sub_zero, Int.add_zero]; exact nx 0 1 _ (Or.inl rfl) (by rcases g6 with ⟨g6, g7⟩ | ⟨g6, g7⟩ <;> rw [g7] <;> simp <;> omega) (Or.inl ⟨rfl, by omega, by first | exact Or.inl (by omega) | (have := dsv (by omega); right; omega)⟩))
                  | (simp only [Int.sub_zero, Int.add_zero]; exact nx 0 0 _ (Or.inl rfl) (by rcases g6 with ⟨g6, g7⟩ | ⟨g6, g7⟩ <;> rw [g7] <;> simp <;> omega) (Or.inr ⟨rfl, by first | exact Or.inl (by omega) | (have := dsv (by omega); right; omega)⟩))
              · refine z_iload h dX8_isFit_101 rfl ?_
                refine z_raload_n h dX8_isFit_103 rfl ?_
                refine z_getr h dX8_isFit_104 fX8_49 L57 rfl ?_
                refine z_iconst h dX8_isFit_107 ?_
                refine z_iald h dX8_isFit_108 L71 (by decide) (by omega) ?_
                refine z_icmp_ge h dX8_isFit_109 (by omega) (by omega) (fun b109 => ?_) (fun b109 => ?_)
                · refine z_iconst h dX8_isFit_136 ?_
                  refine z_goto h dX8_isFit_137 ?_
                  refine z_ist1 h dX8_isFit_141 (by decide) (zst1_6 rfl) ?_
                  refine z_iinc h dX8_isFit_143 (by decide) rfl (zst1_7 rfl) ?_
                  refine z_goto h dX8_isFit_146 ?_
                  rw [show (t : Int) + 1 = ((t + 1 : Nat) : Int) by omega]
                  first
                    | (exfalso; omega)
                    | (simp only [Int.sub_zero, Int.add_zero]; exact nx 1 1 _ (Or.inr rfl) (by rcases g6 with ⟨g6, g7⟩ | ⟨g6, g7⟩ <;> rw [g7] <;> simp <;> omega) (Or.inl ⟨rfl, by omega, by first | exact Or.inl (by omega) | (have := dsv (by omega); right; omega)⟩))
                    | (simp only [Int.sub_zero, Int.add_zero]; exact nx 1 0 _ (Or.inr rfl) (by rcases g6 with ⟨g6, g7⟩ | ⟨g6, g7⟩ <;> rw [g7] <;> simp <;> omega) (Or.inr ⟨rfl, by first | exact Or.inl (by omega) | (have := dsv (by omega); right; omega)⟩))
                    | (simp only [Int.sub_zero, Int.add_zero]; exact nx 0 1 _ (Or.inl rfl) (by rcases g6 with ⟨g6, g7⟩ | ⟨g6, g7⟩ <;> rw [g7] <;> simp <;> omega) (Or.inl ⟨rfl, by omega, by first | exact Or.inl (by omega) | (have := dsv (by omega); right; omega)⟩))
                    | (simp only [Int.sub_zero, Int.add_zero]; exact nx 0 0 _ (Or.inl rfl) (by rcases g6 with ⟨g6, g7⟩ | ⟨g6, g7⟩ <;> rw [g7] <;> simp <;> omega) (Or.inr ⟨rfl, by first | exact Or.inl (by omega) | (have := dsv (by omega); right; omega)⟩))
                · refine z_raload_n h dX8_isFit_112 rfl ?_
                  refine z_getr h dX8_isFit_113 fX8_52 L57 rfl ?_
                  refine z_iload h dX8_isFit_116 rfl ?_
                  refine z_iald h dX8_isFit_118 L72 (by decide) (by omega) ?_
                  refine z_bipush h dX8_isFit_119 (by decide) ?_
                  refine z_icmp_eq h dX8_isFit_121 (by omega) (by omega) (fun b121 => ?_) (fun b121 => ?_)
                  · refine z_iconst h dX8_isFit_136 ?_
                    refine z_goto h dX8_isFit_137 ?_
                    refine z_ist1 h dX8_isFit_141 (by decide) (zst1_6 rfl) ?_
                    refine z_iinc h dX8_isFit_143 (by decide) rfl (zst1_7 rfl) ?_
                    refine z_goto h dX8_isFit_146 ?_
                    rw [show (t : Int) + 1 = ((t + 1 : Nat) : Int) by omega]
                    first
                      | (exfalso; omega)
                      | (simp only [Int.sub_zero, Int.add_zero]; exact nx 1 1 _ (Or.inr rfl) (by rcases g6 with ⟨g6, g7⟩ | ⟨g6, g7⟩ <;> rw [g7] <;> simp <;> omega) (Or.inl ⟨rfl, by omega, by first | exact Or.inl (by omega) | (have := dsv (by omega); right; omega)⟩))
                      | (simp only [Int.sub_zero, Int.add_zero]; exact nx 1 0 _ (Or.inr rfl) (by rcases g6 with ⟨g6, g7⟩ | ⟨g6, g7⟩ <;> rw [g7] <;> simp <;> omega) (Or.inr ⟨rfl, by first | exact Or.inl (by omega) | (have := dsv (by omega); right; omega)⟩))
                      | (simp only [Int.sub_zero, Int.add_zero]; exact nx 0 1 _ (Or.inl rfl) (by rcases g6 with ⟨g6, g7⟩ | ⟨g6, g7⟩ <;> rw [g7] <;> simp <;> omega) (Or.inl ⟨rfl, by omega, by first | exact Or.inl (by omega) | (have := dsv (by omega); right; omega)⟩))
                      | (simp only [Int.sub_zero, Int.add_zero]; exact nx 0 0 _ (Or.inl rfl) (by rcases g6 with ⟨g6, g7⟩ | ⟨g6, g7⟩ <;> rw [g7] <;> simp <;> omega) (Or.inr ⟨rfl, by first | exact Or.inl (by omega) | (have := dsv (by omega); right; omega)⟩))
                  · refine z_raload_n h dX8_isFit_124 rfl ?_
                    refine z_getr h dX8_isFit_125 fX8_52 L57 rfl ?_
                    refine z_iload h dX8_isFit_128 rfl ?_
                    refine z_iald h dX8_isFit_130 L72 (by decide) (by omega) ?_
                    refine z_iload h dX8_isFit_131 rfl ?_
                    refine z_icmp_ne h dX8_isFit_133 (by omega) (by omega) (fun b133 => ?_) (fun b133 => ?_)
                    · refine z_iconst h dX8_isFit_140 ?_
                      refine z_ist1 h dX8_isFit_141 (by decide) (zst1_6 rfl) ?_
                      refine z_iinc h dX8_isFit_143 (by decide) rfl (zst1_7 rfl) ?_
                      refine z_goto h dX8_isFit_146 ?_
                      rw [show (t : Int) + 1 = ((t + 1 : Nat) : Int) by omega]
                      first
                        | (exfalso; omega)
                        | (simp only [Int.sub_zero, Int.add_zero]; exact nx 1 1 _ (Or.inr rfl) (by rcases g6 with ⟨g6, g7⟩ | ⟨g6, g7⟩ <;> rw [g7] <;> simp <;> omega) (Or.inl ⟨rfl, by omega, by first | exact Or.inl (by omega) | (have := dsv (by omega); right; omega)⟩))
                        | (simp only [Int.sub_zero, Int.add_zero]; exact nx 1 0 _ (Or.inr rfl) (by rcases g6 with ⟨g6, g7⟩ | ⟨g6, g7⟩ <;> rw [g7] <;> simp <;> omega) (Or.inr ⟨rfl, by first | exact Or.inl (by omega) | (have := dsv (by omega); right; omega)⟩))
                        | (simp only [Int.sub_zero, Int.add_zero]; exact nx 0 1 _ (Or.inl rfl) (by rcases g6 with ⟨g6, g7⟩ | ⟨g6, g7⟩ <;> rw [g7] <;> simp <;> omega) (Or.inl ⟨rfl, by omega, by first | exact Or.inl (by omega) | (have := dsv (by omega); right; omega)⟩))
                        | (simp only [Int.sub_zero, Int.add_zero]; exact nx 0 0 _ (Or.inl rfl) (by rcases g6 with ⟨g6, g7⟩ | ⟨g6, g7⟩ <;> rw [g7] <;> simp <;> omega) (Or.inr ⟨rfl, by first | exact Or.inl (by omega) | (have := dsv (by omega); right; omega)⟩))
                    · refine z_iconst h dX8_isFit_136 ?_
                      refine z_goto h dX8_isFit_137 ?_
                      refine z_ist1 h dX8_isFit_141 (by decide) (zst1_6 rfl) ?_
                      refine z_iinc h dX8_isFit_143 (by decide) rfl (zst1_7 rfl) ?_
                      refine z_goto h dX8_isFit_146 ?_
                      rw [show (t : Int) + 1 = ((t + 1 : Nat) : Int) by omega]
                      first
                        | (exfalso; omega)
                        | (simp only [Int.sub_zero, Int.add_zero]; exact nx 1 1 _ (Or.inr rfl) (by rcases g6 with ⟨g6, g7⟩ | ⟨g6, g7⟩ <;> rw [g7] <;> simp <;> omega) (Or.inl ⟨rfl, by omega, by first | exact Or.inl (by omega) | (have := dsv (by omega); right; omega)⟩))
                        | (simp only [Int.sub_zero, Int.add_zero]; exact nx 1 0 _ (Or.inr rfl) (by rcases g6 with ⟨g6, g7⟩ | ⟨g6, g7⟩ <;> rw [g7] <;> simp <;> omega) (Or.inr ⟨rfl, by first | exact Or.inl (by omega) | (have := dsv (by omega); right; omega)⟩))
                        | (simp only [Int.sub_zero, Int.add_zero]; exact nx 0 1 _ (Or.inl rfl) (by rcases g6 with ⟨g6, g7⟩ | ⟨g6, g7⟩ <;> rw [g7] <;> simp <;> omega) (Or.inl ⟨rfl, by omega, by first | exact Or.inl (by omega) | (have := dsv (by omega); right; omega)⟩))
                        | (simp only [Int.sub_zero, Int.add_zero]; exact nx 0 0 _ (Or.inl rfl) (by rcases g6 with ⟨g6, g7⟩ | ⟨g6, g7⟩ <;> rw [g7] <;> simp <;> omega) (Or.inr ⟨rfl, by first | exact Or.inl (by omega) | (have := dsv (by omega); right; omega)⟩))
            · refine z_iconst h dX8_isFit_89 ?_
              refine z_goto h dX8_isFit_90 ?_
              refine z_iadd h dX8_isFit_94 ?_
              refine z_ist1_n h dX8_isFit_95 (by decide) (zst1_3 rfl) ?_
              refine z_iload h dX8_isFit_96 rfl ?_
              refine z_if_eq h dX8_isFit_98 (by omega) (fun b98 => ?_) (fun b98 => ?_)
              · refine z_iconst h dX8_isFit_140 ?_
                refine z_ist1 h dX8_isFit_141 (by decide) (zst1_6 rfl) ?_
                refine z_iinc h dX8_isFit_143 (by decide) rfl (zst1_7 rfl) ?_
                refine z_goto h dX8_isFit_146 ?_
                rw [show (t : Int) + 1 = ((t + 1 : Nat) : Int) by omega]
                first
                  | (exfalso; omega)
                  | (simp only [Int.sub_zero, Int.add_zero]; exact nx 1 1 _ (Or.inr rfl) (by rcases g6 with ⟨g6, g7⟩ | ⟨g6, g7⟩ <;> rw [g7] <;> simp <;> omega) (Or.inl ⟨rfl, by omega, by first | exact Or.inl (by omega) | (have := dsv (by omega); right; omega)⟩))
                  | (simp only [Int.sub_zero, Int.add_zero]; exact nx 1 0 _ (Or.inr rfl) (by rcases g6 with ⟨g6, g7⟩ | ⟨g6, g7⟩ <;> rw [g7] <;> simp <;> omega) (Or.inr ⟨rfl, by first | exact Or.inl (by omega) | (have := dsv (by omega); right; omega)⟩))
                  | (simp only [Int.sub_zero, Int.add_zero]; exact nx 0 1 _ (Or.inl rfl) (by rcases g6 with ⟨g6, g7⟩ | ⟨g6, g7⟩ <;> rw [g7] <;> simp <;> omega) (Or.inl ⟨rfl, by omega, by first | exact Or.inl (by omega) | (have := dsv (by omega); right; omega)⟩))
                  | (simp only [Int.sub_zero, Int.add_zero]; exact nx 0 0 _ (Or.inl rfl) (by rcases g6 with ⟨g6, g7⟩ | ⟨g6, g7⟩ <;> rw [g7] <;> simp <;> omega) (Or.inr ⟨rfl, by first | exact Or.inl (by omega) | (have := dsv (by omega); right; omega)⟩))
              · refine z_iload h dX8_isFit_101 rfl ?_
                refine z_raload_n h dX8_isFit_103 rfl ?_
                refine z_getr h dX8_isFit_104 fX8_49 L57 rfl ?_
                refine z_iconst h dX8_isFit_107 ?_
                refine z_iald h dX8_isFit_108 L71 (by decide) (by omega) ?_
                refine z_icmp_ge h dX8_isFit_109 (by omega) (by omega) (fun b109 => ?_) (fun b109 => ?_)
                · refine z_iconst h dX8_isFit_136 ?_
                  refine z_goto h dX8_isFit_137 ?_
                  refine z_ist1 h dX8_isFit_141 (by decide) (zst1_6 rfl) ?_
                  refine z_iinc h dX8_isFit_143 (by decide) rfl (zst1_7 rfl) ?_
                  refine z_goto h dX8_isFit_146 ?_
                  rw [show (t : Int) + 1 = ((t + 1 : Nat) : Int) by omega]
                  first
                    | (exfalso; omega)
                    | (simp only [Int.sub_zero, Int.add_zero]; exact nx 1 1 _ (Or.inr rfl) (by rcases g6 with ⟨g6, g7⟩ | ⟨g6, g7⟩ <;> rw [g7] <;> simp <;> omega) (Or.inl ⟨rfl, by omega, by first | exact Or.inl (by omega) | (have := dsv (by omega); right; omega)⟩))
                    | (simp only [Int.sub_zero, Int.add_zero]; exact nx 1 0 _ (Or.inr rfl) (by rcases g6 with ⟨g6, g7⟩ | ⟨g6, g7⟩ <;> rw [g7] <;> simp <;> omega) (Or.inr ⟨rfl, by first | exact Or.inl (by omega) | (have := dsv (by omega); right; omega)⟩))
                    | (simp only [Int.sub_zero, Int.add_zero]; exact nx 0 1 _ (Or.inl rfl) (by rcases g6 with ⟨g6, g7⟩ | ⟨g6, g7⟩ <;> rw [g7] <;> simp <;> omega) (Or.inl ⟨rfl, by omega, by first | exact Or.inl (by omega) | (have := dsv (by omega); right; omega)⟩))
                    | (simp only [Int.sub_zero, Int.add_zero]; exact nx 0 0 _ (Or.inl rfl) (by rcases g6 with ⟨g6, g7⟩ | ⟨g6, g7⟩ <;> rw [g7] <;> simp <;> omega) (Or.inr ⟨rfl, by first | exact Or.inl (by omega) | (have := dsv (by omega); right; omega)⟩))
                · refine z_raload_n h dX8_isFit_112 rfl ?_
                  refine z_getr h dX8_isFit_113 fX8_52 L57 rfl ?_
                  refine z_iload h dX8_isFit_116 rfl ?_
                  refine z_iald h dX8_isFit_118 L72 (by decide) (by omega) ?_
                  refine z_bipush h dX8_isFit_119 (by decide) ?_
                  refine z_icmp_eq h dX8_isFit_121 (by omega) (by omega) (fun b121 => ?_) (fun b121 => ?_)
                  · refine z_iconst h dX8_isFit_136 ?_
                    refine z_goto h dX8_isFit_137 ?_
                    refine z_ist1 h dX8_isFit_141 (by decide) (zst1_6 rfl) ?_
                    refine z_iinc h dX8_isFit_143 (by decide) rfl (zst1_7 rfl) ?_
                    refine z_goto h dX8_isFit_146 ?_
                    rw [show (t : Int) + 1 = ((t + 1 : Nat) : Int) by omega]
                    first
                      | (exfalso; omega)
                      | (simp only [Int.sub_zero, Int.add_zero]; exact nx 1 1 _ (Or.inr rfl) (by rcases g6 with ⟨g6, g7⟩ | ⟨g6, g7⟩ <;> rw [g7] <;> simp <;> omega) (Or.inl ⟨rfl, by omega, by first | exact Or.inl (by omega) | (have := dsv (by omega); right; omega)⟩))
                      | (simp only [Int.sub_zero, Int.add_zero]; exact nx 1 0 _ (Or.inr rfl) (by rcases g6 with ⟨g6, g7⟩ | ⟨g6, g7⟩ <;> rw [g7] <;> simp <;> omega) (Or.inr ⟨rfl, by first | exact Or.inl (by omega) | (have := dsv (by omega); right; omega)⟩))
                      | (simp only [Int.sub_zero, Int.add_zero]; exact nx 0 1 _ (Or.inl rfl) (by rcases g6 with ⟨g6, g7⟩ | ⟨g6, g7⟩ <;> rw [g7] <;> simp <;> omega) (Or.inl ⟨rfl, by omega, by first | exact Or.inl (by omega) | (have := dsv (by omega); right; omega)⟩))
                      | (simp only [Int.sub_zero, Int.add_zero]; exact nx 0 0 _ (Or.inl rfl) (by rcases g6 with ⟨g6, g7⟩ | ⟨g6, g7⟩ <;> rw [g7] <;> simp <;> omega) (Or.inr ⟨rfl, by first | exact Or.inl (by omega) | (have := dsv (by omega); right; omega)⟩))
                  · refine z_raload_n h dX8_isFit_124 rfl ?_
                    refine z_getr h dX8_isFit_125 fX8_52 L57 rfl ?_
                    refine z_iload h dX8_isFit_128 rfl ?_
                    refine z_iald h dX8_isFit_130 L72 (by decide) (by omega) ?_
                    refine z_iload h dX8_isFit_131 rfl ?_
                    refine z_icmp_ne h dX8_isFit_133 (by omega) (by omega) (fun b133 => ?_) (fun b133 => ?_)
                    · refine z_iconst h dX8_isFit_140 ?_
                      refine z_ist1 h dX8_isFit_141 (by decide) (zst1_6 rfl) ?_
                      refine z_iinc h dX8_isFit_143 (by decide) rfl (zst1_7 rfl) ?_
                      refine z_goto h dX8_isFit_146 ?_
                      rw [show (t : Int) + 1 = ((t + 1 : Nat) : Int) by omega]
                      first
                        | (exfalso; omega)
                        | (simp only [Int.sub_zero, Int.add_zero]; exact nx 1 1 _ (Or.inr rfl) (by rcases g6 with ⟨g6, g7⟩ | ⟨g6, g7⟩ <;> rw [g7] <;> simp <;> omega) (Or.inl ⟨rfl, by omega, by first | exact Or.inl (by omega) | (have := dsv (by omega); right; omega)⟩))
                        | (simp only [Int.sub_zero, Int.add_zero]; exact nx 1 0 _ (Or.inr rfl) (by rcases g6 with ⟨g6, g7⟩ | ⟨g6, g7⟩ <;> rw [g7] <;> simp <;> omega) (Or.inr ⟨rfl, by first | exact Or.inl (by omega) | (have := dsv (by omega); right; omega)⟩))
                        | (simp only [Int.sub_zero, Int.add_zero]; exact nx 0 1 _ (Or.inl rfl) (by rcases g6 with ⟨g6, g7⟩ | ⟨g6, g7⟩ <;> rw [g7] <;> simp <;> omega) (Or.inl ⟨rfl, by omega, by first | exact Or.inl (by omega) | (have := dsv (by omega); right; omega)⟩))
                        | (simp only [Int.sub_zero, Int.add_zero]; exact nx 0 0 _ (Or.inl rfl) (by rcases g6 with ⟨g6, g7⟩ | ⟨g6, g7⟩ <;> rw [g7] <;> simp <;> omega) (Or.inr ⟨rfl, by first | exact Or.inl (by omega) | (have := dsv (by omega); right; omega)⟩))
                    · refine z_iconst h dX8_isFit_136 ?_
                      refine z_goto h dX8_isFit_137 ?_
                      refine z_ist1 h dX8_isFit_141 (by decide) (zst1_6 rfl) ?_
                      refine z_iinc h dX8_isFit_143 (by decide) rfl (zst1_7 rfl) ?_
                      refine z_goto h dX8_isFit_146 ?_
                      rw [show (t : Int) + 1 = ((t + 1 : Nat) : Int) by omega]
                      first
                        | (exfalso; omega)
                        | (simp only [Int.sub_zero, Int.add_zero]; exact nx 1 1 _ (Or.inr rfl) (by rcases g6 with ⟨g6, g7⟩ | ⟨g6, g7⟩ <;> rw [g7] <;> simp <;> omega) (Or.inl ⟨rfl, by omega, by first | exact Or.inl (by omega) | (have := dsv (by omega); right; omega)⟩))
                        | (simp only [Int.sub_zero, Int.add_zero]; exact nx 1 0 _ (Or.inr rfl) (by rcases g6 with ⟨g6, g7⟩ | ⟨g6, g7⟩ <;> rw [g7] <;> simp <;> omega) (Or.inr ⟨rfl, by first | exact Or.inl (by omega) | (have := dsv (by omega); right; omega)⟩))
                        | (simp only [Int.sub_zero, Int.add_zero]; exact nx 0 1 _ (Or.inl rfl) (by rcases g6 with ⟨g6, g7⟩ | ⟨g6, g7⟩ <;> rw [g7] <;> simp <;> omega) (Or.inl ⟨rfl, by omega, by first | exact Or.inl (by omega) | (have := dsv (by omega); right; omega)⟩))
                        | (simp only [Int.sub_zero, Int.add_zero]; exact nx 0 0 _ (Or.inl rfl) (by rcases g6 with ⟨g6, g7⟩ | ⟨g6, g7⟩ <;> rw [g7] <;> simp <;> omega) (Or.inr ⟨rfl, by first | exact Or.inl (by omega) | (have := dsv (by omega); right; omega)⟩))
          · refine z_iconst h dX8_isFit_75 ?_
            refine z_goto h dX8_isFit_76 ?_
            refine z_isub h dX8_isFit_80 ?_
            refine z_ist1 h dX8_isFit_81 (by decide) (zst1_4 rfl) ?_
            refine z_iload_n h dX8_isFit_83 rfl ?_
            refine z_iload h dX8_isFit_84 rfl ?_
            refine z_if_eq h dX8_isFit_86 (by omega) (fun b86 => ?_) (fun b86 => ?_)
            · refine z_iconst h dX8_isFit_93 ?_
              refine z_iadd h dX8_isFit_94 ?_
              refine z_ist1_n h dX8_isFit_95 (by decide) (zst1_3 rfl) ?_
              refine z_iload h dX8_isFit_96 rfl ?_
              refine z_if_eq h dX8_isFit_98 (by omega) (fun b98 => ?_) (fun b98 => ?_)
              · refine z_iconst h dX8_isFit_140 ?_
                refine z_ist1 h dX8_isFit_141 (by decide) (zst1_6 rfl) ?_
                refine z_iinc h dX8_isFit_143 (by decide) rfl (zst1_7 rfl) ?_
                refine z_goto h dX8_isFit_146 ?_
                rw [show (t : Int) + 1 = ((t + 1 : Nat) : Int) by omega]
                first
                  | (exfalso; omega)
                  | (simp only [Int.sub_zero, Int.add_zero]; exact nx 1 1 _ (Or.inr rfl) (by rcases g6 with ⟨g6, g7⟩ | ⟨g6, g7⟩ <;> rw [g7] <;> simp <;> omega) (Or.inl ⟨rfl, by omega, by first | exact Or.inl (by omega) | (have := dsv (by omega); right; omega)⟩))
                  | (simp only [Int.sub_zero, Int.add_zero]; exact nx 1 0 _ (Or.inr rfl) (by rcases g6 with ⟨g6, g7⟩ | ⟨g6, g7⟩ <;> rw [g7] <;> simp <;> omega) (Or.inr ⟨rfl, by first | exact Or.inl (by omega) | (have := dsv (by omega); right; omega)⟩))
                  | (simp only [Int.sub_zero, Int.add_zero]; exact nx 0 1 _ (Or.inl rfl) (by rcases g6 with ⟨g6, g7⟩ | ⟨g6, g7⟩ <;> rw [g7] <;> simp <;> omega) (Or.inl ⟨rfl, by omega, by first | exact Or.inl (by omega) | (have := dsv (by omega); right; omega)⟩))
                  | (simp only [Int.sub_zero, Int.add_zero]; exact nx 0 0 _ (Or.inl rfl) (by rcases g6 with ⟨g6, g7⟩ | ⟨g6, g7⟩ <;> rw [g7] <;> simp <;> omega) (Or.inr ⟨rfl, by first | exact Or.inl (by omega) | (have := dsv (by omega); right; omega)⟩))
              · refine z_iload h dX8_isFit_101 rfl ?_
                refine z_raload_n h dX8_isFit_103 rfl ?_
                refine z_getr h dX8_isFit_104 fX8_49 L57 rfl ?_
                refine z_iconst h dX8_isFit_107 ?_
                refine z_iald h dX8_isFit_108 L71 (by decide) (by omega) ?_
                refine z_icmp_ge h dX8_isFit_109 (by omega) (by omega) (fun b109 => ?_) (fun b109 => ?_)
                · refine z_iconst h dX8_isFit_136 ?_
                  refine z_goto h dX8_isFit_137 ?_
                  refine z_ist1 h dX8_isFit_141 (by decide) (zst1_6 rfl) ?_
                  refine z_iinc h dX8_isFit_143 (by decide) rfl (zst1_7 rfl) ?_
                  refine z_goto h dX8_isFit_146 ?_
                  rw [show (t : Int) + 1 = ((t + 1 : Nat) : Int) by omega]
                  first
                    | (exfalso; omega)
                    | (simp only [Int.sub_zero, Int.add_zero]; exact nx 1 1 _ (Or.inr rfl) (by rcases g6 with ⟨g6, g7⟩ | ⟨g6, g7⟩ <;> rw [g7] <;> simp <;> omega) (Or.inl ⟨rfl, by omega, by first | exact Or.inl (by omega) | (have := dsv (by omega); right; omega)⟩))
                    | (simp only [Int.sub_zero, Int.add_zero]; exact nx 1 0 _ (Or.inr rfl) (by rcases g6 with ⟨g6, g7⟩ | ⟨g6, g7⟩ <;> rw [g7] <;> simp <;> omega) (Or.inr ⟨rfl, by first | exact Or.inl (by omega) | (have := dsv (by omega); right; omega)⟩))
                    | (simp only [Int.sub_zero, Int.add_zero]; exact nx 0 1 _ (Or.inl rfl) (by rcases g6 with ⟨g6, g7⟩ | ⟨g6, g7⟩ <;> rw [g7] <;> simp <;> omega) (Or.inl ⟨rfl, by omega, by first | exact Or.inl (by omega) | (have := dsv (by omega); right; omega)⟩))
                    | (simp only [Int.sub_zero, Int.add_zero]; exact nx 0 0 _ (Or.inl rfl) (by rcases g6 with ⟨g6, g7⟩ | ⟨g6, g7⟩ <;> rw [g7] <;> simp <;> omega) (Or.inr ⟨rfl, by first | exact Or.inl (by omega) | (have := dsv (by omega); right; omega)⟩))
                · refine z_raload_n h dX8_isFit_112 rfl ?_
                  refine z_getr h dX8_isFit_113 fX8_52 L57 rfl ?_
                  refine z_iload h dX8_isFit_116 rfl ?_
                  refine z_iald h dX8_isFit_118 L72 (by decide) (by omega) ?_
                  refine z_bipush h dX8_isFit_119 (by decide) ?_
                  refine z_icmp_eq h dX8_isFit_121 (by omega) (by omega) (fun b121 => ?_) (fun b121 => ?_)
                  · refine z_iconst h dX8_isFit_136 ?_
                    refine z_goto h dX8_isFit_137 ?_
                    refine z_ist1 h dX8_isFit_141 (by decide) (zst1_6 rfl) ?_
                    refine z_iinc h dX8_isFit_143 (by decide) rfl (zst1_7 rfl) ?_
                    refine z_goto h dX8_isFit_146 ?_
                    rw [show (t : Int) + 1 = ((t + 1 : Nat) : Int) by omega]
                    first
                      | (exfalso; omega)
                      | (simp only [Int.sub_zero, Int.add_zero]; exact nx 1 1 _ (Or.inr rfl) (by rcases g6 with ⟨g6, g7⟩ | ⟨g6, g7⟩ <;> rw [g7] <;> simp <;> omega) (Or.inl ⟨rfl, by omega, by first | exact Or.inl (by omega) | (have := dsv (by omega); right; omega)⟩))
                      | (simp only [Int.sub_zero, Int.add_zero]; exact nx 1 0 _ (Or.inr rfl) (by rcases g6 with ⟨g6, g7⟩ | ⟨g6, g7⟩ <;> rw [g7] <;> simp <;> omega) (Or.inr ⟨rfl, by first | exact Or.inl (by omega) | (have := dsv (by omega); right; omega)⟩))
                      | (simp only [Int.sub_zero, Int.add_zero]; exact nx 0 1 _ (Or.inl rfl) (by rcases g6 with ⟨g6, g7⟩ | ⟨g6, g7⟩ <;> rw [g7] <;> simp <;> omega) (Or.inl ⟨rfl, by omega, by first | exact Or.inl (by omega) | (have := dsv (by omega); right; omega)⟩))
                      | (simp only [Int.sub_zero, Int.add_zero]; exact nx 0 0 _ (Or.inl rfl) (by rcases g6 with ⟨g6, g7⟩ | ⟨g6, g7⟩ <;> rw [g7] <;> simp <;> omega) (Or.inr ⟨rfl, by first | exact Or.inl (by omega) | (have := dsv (by omega); right; omega)⟩))
                  · refine z_raload_n h dX8_isFit_124 rfl ?_
                    refine z_getr h dX8_isFit_125 fX8_52 L57 rfl ?_
                    refine z_iload h dX8_isFit_128 rfl ?_
                    refine z_iald h dX8_isFit_130 L72 (by decide) (by omega) ?_
                    refine z_iload h dX8_isFit_131 rfl ?_
                    refine z_icmp_ne h dX8_isFit_133 (by omega) (by omega) (fun b133 => ?_) (fun b133 => ?_)
                    · refine z_iconst h dX8_isFit_140 ?_
                      refine z_ist1 h dX8_isFit_141 (by decide) (zst1_6 rfl) ?_
                      refine z_iinc h dX8_isFit_143 (by decide) rfl (zst1_7 rfl) ?_
                      refine z_goto h dX8_isFit_146 ?_
                      rw [show (t : Int) + 1 = ((t + 1 : Nat) : Int) by omega]
                      first
                        | (exfalso; omega)
                        | (simp only [Int.sub_zero, Int.add_zero]; exact nx 1 1 _ (Or.inr rfl) (by rcases g6 with ⟨g6, g7⟩ | ⟨g6, g7⟩ <;> rw [g7] <;> simp <;> omega) (Or.inl ⟨rfl, by omega, by first | exact Or.inl (by omega) | (have := dsv (by omega); right; omega)⟩))
                        | (simp only [Int.sub_zero, Int.add_zero]; exact nx 1 0 _ (Or.inr rfl) (by rcases g6 with ⟨g6, g7⟩ | ⟨g6, g7⟩ <;> rw [g7] <;> simp <;> omega) (Or.inr ⟨rfl, by first | exact Or.inl (by omega) | (have := dsv (by omega); right; omega)⟩))
                        | (simp only [Int.sub_zero, Int.add_zero]; exact nx 0 1 _ (Or.inl rfl) (by rcases g6 with ⟨g6, g7⟩ | ⟨g6, g7⟩ <;> rw [g7] <;> simp <;> omega) (Or.inl ⟨rfl, by omega, by first | exact Or.inl (by omega) | (have := dsv (by omega); right; omega)⟩))
                        | (simp only [Int.sub_zero, Int.add_zero]; exact nx 0 0 _ (Or.inl rfl) (by rcases g6 with ⟨g6, g7⟩ | ⟨g6, g7⟩ <;> rw [g7] <;> simp <;> omega) (Or.inr ⟨rfl, by first | exact Or.inl (by omega) | (have := dsv (by omega); right; omega)⟩))
                    · refine z_iconst h dX8_isFit_136 ?_
                      refine z_goto h dX8_isFit_137 ?_
                      refine z_ist1 h dX8_isFit_141 (by decide) (zst1_6 rfl) ?_
                      refine z_iinc h dX8_isFit_143 (by decide) rfl (zst1_7 rfl) ?_
                      refine z_goto h dX8_isFit_146 ?_
                      rw [show (t : Int) + 1 = ((t + 1 : Nat) : Int) by omega]
                      first
                        | (exfalso; omega)
                        | (simp only [Int.sub_zero, Int.add_zero]; exact nx 1 1 _ (Or.inr rfl) (by rcases g6 with ⟨g6, g7⟩ | ⟨g6, g7⟩ <;> rw [g7] <;> simp <;> omega) (Or.inl ⟨rfl, by omega, by first | exact Or.inl (by omega) | (have := dsv (by omega); right; omega)⟩))
                        | (simp only [Int.sub_zero, Int.add_zero]; exact nx 1 0 _ (Or.inr rfl) (by rcases g6 with ⟨g6, g7⟩ | ⟨g6, g7⟩ <;> rw [g7] <;> simp <;> omega) (Or.inr ⟨rfl, by first | exact Or.inl (by omega) | (have := dsv (by omega); right; omega)⟩))
                        | (simp only [Int.sub_zero, Int.add_zero]; exact nx 0 1 _ (Or.inl rfl) (by rcases g6 with ⟨g6, g7⟩ | ⟨g6, g7⟩ <;> rw [g7] <;> simp <;> omega) (Or.inl ⟨rfl, by omega, by first | exact Or.inl (by omega) | (have := dsv (by omega); right; omega)⟩))
                        | (simp only [Int.sub_zero, Int.add_zero]; exact nx 0 0 _ (Or.inl rfl) (by rcases g6 with ⟨g6, g7⟩ | ⟨g6, g7⟩ <;> rw [g7] <;> simp <;> omega) (Or.inr ⟨rfl, by first | exact Or.inl (by omega) | (have := dsv (by omega); right; omega)⟩))
            · refine z_iconst h dX8_isFit_89 ?_
              refine z_goto h dX8_isFit_90 ?_
              refine z_iadd h dX8_isFit_94 ?_
              refine z_ist1_n h dX8_isFit_95 (by decide) (zst1_3 rfl) ?_
              refine z_iload h dX8_isFit_96 rfl ?_
              refine z_if_eq h dX8_isFit_98 (by omega) (fun b98 => ?_) (fun b98 => ?_)
              · refine z_iconst h dX8_isFit_140 ?_
                refine z_ist1 h dX8_isFit_141 (by decide) (zst1_6 rfl) ?_
                refine z_iinc h dX8_isFit_143 (by decide) rfl (zst1_7 rfl) ?_
                refine z_goto h dX8_isFit_146 ?_
                rw [show (t : Int) + 1 = ((t + 1 : Nat) : Int) by omega]
                first
                  | (exfalso; omega)
                  | (simp only [Int.sub_zero, Int.add_zero]; exact nx 1 1 _ (Or.inr rfl) (by rcases g6 with ⟨g6, g7⟩ | ⟨g6, g7⟩ <;> rw [g7] <;> simp <;> omega) (Or.inl ⟨rfl, by omega, by first | exact Or.inl (by omega) | (have := dsv (by omega); right; omega)⟩))
                  | (simp only [Int.sub_zero, Int.add_zero]; exact nx 1 0 _ (Or.inr rfl) (by rcases g6 with ⟨g6, g7⟩ | ⟨g6, g7⟩ <;> rw [g7] <;> simp <;> omega) (Or.inr ⟨rfl, by first | exact Or.inl (by omega) | (have := dsv (by omega); right; omega)⟩))
                  | (simp only [Int.sub_zero, Int.add_zero]; exact nx 0 1 _ (Or.inl rfl) (by rcases g6 with ⟨g6, g7⟩ | ⟨g6, g7⟩ <;> rw [g7] <;> simp <;> omega) (Or.inl ⟨rfl, by omega, by first | exact Or.inl (by omega) | (have := dsv (by omega); right; omega)⟩))
                  | (simp only [Int.sub_zero, Int.add_zero]; exact nx 0 0 _ (Or.inl rfl) (by rcases g6 with ⟨g6, g7⟩ | ⟨g6, g7⟩ <;> rw [g7] <;> simp <;> omega) (Or.inr ⟨rfl, by first | exact Or.inl (by omega) | (have := dsv (by omega); right; omega)⟩))
              · refine z_iload h dX8_isFit_101 rfl ?_
                refine z_raload_n h dX8_isFit_103 rfl ?_
                refine z_getr h dX8_isFit_104 fX8_49 L57 rfl ?_
                refine z_iconst h dX8_isFit_107 ?_
                refine z_iald h dX8_isFit_108 L71 (by decide) (by omega) ?_
                refine z_icmp_ge h dX8_isFit_109 (by omega) (by omega) (fun b109 => ?_) (fun b109 => ?_)
                · refine z_iconst h dX8_isFit_136 ?_
                  refine z_goto h dX8_isFit_137 ?_
                  refine z_ist1 h dX8_isFit_141 (by decide) (zst1_6 rfl) ?_
                  refine z_iinc h dX8_isFit_143 (by decide) rfl (zst1_7 rfl) ?_
                  refine z_goto h dX8_isFit_146 ?_
                  rw [show (t : Int) + 1 = ((t + 1 : Nat) : Int) by omega]
                  first
                    | (exfalso; omega)
                    | (simp only [Int.sub_zero, Int.add_zero]; exact nx 1 1 _ (Or.inr rfl) (by rcases g6 with ⟨g6, g7⟩ | ⟨g6, g7⟩ <;> rw [g7] <;> simp <;> omega) (Or.inl ⟨rfl, by omega, by first | exact Or.inl (by omega) | (have := dsv (by omega); right; omega)⟩))
                    | (simp only [Int.sub_zero, Int.add_zero]; exact nx 1 0 _ (Or.inr rfl) (by rcases g6 with ⟨g6, g7⟩ | ⟨g6, g7⟩ <;> rw [g7] <;> simp <;> omega) (Or.inr ⟨rfl, by first | exact Or.inl (by omega) | (have := dsv (by omega); right; omega)⟩))
                    | (simp only [Int.sub_zero, Int.add_zero]; exact nx 0 1 _ (Or.inl rfl) (by rcases g6 with ⟨g6, g7⟩ | ⟨g6, g7⟩ <;> rw [g7] <;> simp <;> omega) (Or.inl ⟨rfl, by omega, by first | exact Or.inl (by omega) | (have := dsv (by omega); right; omega)⟩))
                    | (simp only [Int.sub_zero, Int.add_zero]; exact nx 0 0 _ (Or.inl rfl) (by rcases g6 with ⟨g6, g7⟩ | ⟨g6, g7⟩ <;> rw [g7] <;> simp <;> omega) (Or.inr ⟨rfl, by first | exact Or.inl (by omega) | (have := dsv (by omega); right; omega)⟩))
                · refine z_raload_n h dX8_isFit_112 rfl ?_
                  refine z_getr h dX8_isFit_113 fX8_52 L57 rfl ?_
                  refine z_iload h dX8_isFit_116 rfl ?_
                  refine z_iald h dX8_isFit_118 L72 (by decide) (by omega) ?_
                  refine z_bipush h dX8_isFit_119 (by decide) ?_
                  refine z_icmp_eq h dX8_isFit_121 (by omega) (by omega) (fun b121 => ?_) (fun b121 => ?_)
                  · refine z_iconst h dX8_isFit_136 ?_
                    refine z_goto h dX8_isFit_137 ?_
                    refine z_ist1 h dX8_isFit_141 (by decide) (zst1_6 rfl) ?_
                    refine z_iinc h dX8_isFit_143 (by decide) rfl (zst1_7 rfl) ?_
                    refine z_goto h dX8_isFit_146 ?_
                    rw [show (t : Int) + 1 = ((t + 1 : Nat) : Int) by omega]
                    first
                      | (exfalso; omega)
                      | (simp only [Int.sub_zero, Int.add_zero]; exact nx 1 1 _ (Or.inr rfl) (by rcases g6 with ⟨g6, g7⟩ | ⟨g6, g7⟩ <;> rw [g7] <;> simp <;> omega) (Or.inl ⟨rfl, by omega, by first | exact Or.inl (by omega) | (have := dsv (by omega); right; omega)⟩))
                      | (simp only [Int.sub_zero, Int.add_zero]; exact nx 1 0 _ (Or.inr rfl) (by rcases g6 with ⟨g6, g7⟩ | ⟨g6, g7⟩ <;> rw [g7] <;> simp <;> omega) (Or.inr ⟨rfl, by first | exact Or.inl (by omega) | (have := dsv (by omega); right; omega)⟩))
                      | (simp only [Int.sub_zero, Int.add_zero]; exact nx 0 1 _ (Or.inl rfl) (by rcases g6 with ⟨g6, g7⟩ | ⟨g6, g7⟩ <;> rw [g7] <;> simp <;> omega) (Or.inl ⟨rfl, by omega, by first | exact Or.inl (by omega) | (have := dsv (by omega); right; omega)⟩))
                      | (simp only [Int.sub_zero, Int.add_zero]; exact nx 0 0 _ (Or.inl rfl) (by rcases g6 with ⟨g6, g7⟩ | ⟨g6, g7⟩ <;> rw [g7] <;> simp <;> omega) (Or.inr ⟨rfl, by first | exact Or.inl (by omega) | (have := dsv (by omega); right; omega)⟩))
                  · refine z_raload_n h dX8_isFit_124 rfl ?_
                    refine z_getr h dX8_isFit_125 fX8_52 L57 rfl ?_
                    refine z_iload h dX8_isFit_128 rfl ?_
                    refine z_iald h dX8_isFit_130 L72 (by decide) (by omega) ?_
                    refine z_iload h dX8_isFit_131 rfl ?_
                    refine z_icmp_ne h dX8_isFit_133 (by omega) (by omega) (fun b133 => ?_) (fun b133 => ?_)
                    · refine z_iconst h dX8_isFit_140 ?_
                      refine z_ist1 h dX8_isFit_141 (by decide) (zst1_6 rfl) ?_
                      refine z_iinc h dX8_isFit_143 (by decide) rfl (zst1_7 rfl) ?_
                      refine z_goto h dX8_isFit_146 ?_
                      rw [show (t : Int) + 1 = ((t + 1 : Nat) : Int) by omega]
                      first
                        | (exfalso; omega)
                        | (simp only [Int.sub_zero, Int.add_zero]; exact nx 1 1 _ (Or.inr rfl) (by rcases g6 with ⟨g6, g7⟩ | ⟨g6, g7⟩ <;> rw [g7] <;> simp <;> omega) (Or.inl ⟨rfl, by omega, by first | exact Or.inl (by omega) | (have := dsv (by omega); right; omega)⟩))
                        | (simp only [Int.sub_zero, Int.add_zero]; exact nx 1 0 _ (Or.inr rfl) (by rcases g6 with ⟨g6, g7⟩ | ⟨g6, g7⟩ <;> rw [g7] <;> simp <;> omega) (Or.inr ⟨rfl, by first | exact Or.inl (by omega) | (have := dsv (by omega); right; omega)⟩))
                        | (simp only [Int.sub_zero, Int.add_zero]; exact nx 0 1 _ (Or.inl rfl) (by rcases g6 with ⟨g6, g7⟩ | ⟨g6, g7⟩ <;> rw [g7] <;> simp <;> omega) (Or.inl ⟨rfl, by omega, by first | exact Or.inl (by omega) | (have := dsv (by omega); right; omega)⟩))
                        | (simp only [Int.sub_zero, Int.add_zero]; exact nx 0 0 _ (Or.inl rfl) (by rcases g6 with ⟨g6, g7⟩ | ⟨g6, g7⟩ <;> rw [g7] <;> simp <;> omega) (Or.inr ⟨rfl, by first | exact Or.inl (by omega) | (have := dsv (by omega); right; omega)⟩))
                    · refine z_iconst h dX8_isFit_136 ?_
                      refine z_goto h dX8_isFit_137 ?_
                      refine z_ist1 h dX8_isFit_141 (by decide) (zst1_6 rfl) ?_
                      refine z_iinc h dX8_isFit_143 (by decide) rfl (zst1_7 rfl) ?_
                      refine z_goto h dX8_isFit_146 ?_
                      rw [show (t : Int) + 1 = ((t + 1 : Nat) : Int) by omega]
                      first
                        | (exfalso; omega)
                        | (simp only [Int.sub_zero, Int.add_zero]; exact nx 1 1 _ (Or.inr rfl) (by rcases g6 with ⟨g6, g7⟩ | ⟨g6, g7⟩ <;> rw [g7] <;> simp <;> omega) (Or.inl ⟨rfl, by omega, by first | exact Or.inl (by omega) | (have := dsv (by omega); right; omega)⟩))
                        | (simp only [Int.sub_zero, Int.add_zero]; exact nx 1 0 _ (Or.inr rfl) (by rcases g6 with ⟨g6, g7⟩ | ⟨g6, g7⟩ <;> rw [g7] <;> simp <;> omega) (Or.inr ⟨rfl, by first | exact Or.inl (by omega) | (have := dsv (by omega); right; omega)⟩))
                        | (simp only [Int.sub_zero, Int.add_zero]; exact nx 0 1 _ (Or.inl rfl) (by rcases g6 with ⟨g6, g7⟩ | ⟨g6, g7⟩ <;> rw [g7] <;> simp <;> omega) (Or.inl ⟨rfl, by omega, by first | exact Or.inl (by omega) | (have := dsv (by omega); right; omega)⟩))
                        | (simp only [Int.sub_zero, Int.add_zero]; exact nx 0 0 _ (Or.inl rfl) (by rcases g6 with ⟨g6, g7⟩ | ⟨g6, g7⟩ <;> rw [g7] <;> simp <;> omega) (Or.inr ⟨rfl, by first | exact Or.inl (by omega) | (have := dsv (by omega); right; omega)⟩))
      · refine z_iconst h dX8_isFit_40 ?_
        refine z_goto h dX8_isFit_41 ?_
        refine z_ist1 h dX8_isFit_45 (by decide) (zst1_5 rfl) ?_
        refine z_raload_n h dX8_isFit_47 rfl ?_
        refine z_getr h dX8_isFit_48 fX8_52 L57 rfl ?_
        refine z_bipush h dX8_isFit_51 (by decide) ?_
        refine z_iload h dX8_isFit_53 rfl ?_
        refine z_if_eq h dX8_isFit_55 (by omega) (fun b55 => ?_) (fun b55 => ?_)
        · refine z_iload_n h dX8_isFit_63 rfl ?_
          refine z_iadd h dX8_isFit_64 ?_
          refine z_iald h dX8_isFit_65 L72 (by decide) (by omega) ?_
          refine z_ist1 h dX8_isFit_66 (by decide) (zst1_8 rfl) ?_
          refine z_iload h dX8_isFit_68 rfl ?_
          refine z_iload h dX8_isFit_70 rfl ?_
          refine z_if_eq h dX8_isFit_72 (by omega) (fun b72 => ?_) (fun b72 => ?_)
          · refine z_iconst h dX8_isFit_79 ?_
            refine z_isub h dX8_isFit_80 ?_
            refine z_ist1 h dX8_isFit_81 (by decide) (zst1_4 rfl) ?_
            refine z_iload_n h dX8_isFit_83 rfl ?_
            refine z_iload h dX8_isFit_84 rfl ?_
            refine z_if_eq h dX8_isFit_86 (by omega) (fun b86 => ?_) (fun b86 => ?_)
            · refine z_iconst h dX8_isFit_93 ?_
              refine z_iadd h dX8_isFit_94 ?_
              refine z_ist1_n h dX8_isFit_95 (by decide) (zst1_3 rfl) ?_
              refine z_iload h dX8_isFit_96 rfl ?_
              refine z_if_eq h dX8_isFit_98 (by omega) (fun b98 => ?_) (fun b98 => ?_)
              · refine z_iconst h dX8_isFit_140 ?_
                refine z_ist1 h dX8_isFit_141 (by decide) (zst1_6 rfl) ?_
                refine z_iinc h dX8_isFit_143 (by decide) rfl (zst1_7 rfl) ?_
                refine z_goto h dX8_isFit_146 ?_
                rw [show (t : Int) + 1 = ((t + 1 : Nat) : Int) by omega]
                first
                  | (exfalso; omega)
                  | (simp only [Int.sub_zero, Int.add_zero]; exact nx 1 1 _ (Or.inr rfl) (by rcases g6 with ⟨g6, g7⟩ | ⟨g6, g7⟩ <;> rw [g7] <;> simp <;> omega) (Or.inl ⟨rfl, by omega, by first | exact Or.inl (by omega) | (have := dsv (by omega); right; omega)⟩))
                  | (simp only [Int.sub_zero, Int.add_zero]; exact nx 1 0 _ (Or.inr rfl) (by rcases g6 with ⟨g6, g7⟩ | ⟨g6, g7⟩ <;> rw [g7] <;> simp <;> omega) (Or.inr ⟨rfl, by first | exact Or.inl (by omega) | (have := dsv (by omega); right; omega)⟩))
                  | (simp only [Int.sub_zero, Int.add_zero]; exact nx 0 1 _ (Or.inl rfl) (by rcases g6 with ⟨g6, g7⟩ | ⟨g6, g7⟩ <;> rw [g7] <;> simp <;> omega) (Or.inl ⟨rfl, by omega, by first | exact Or.inl (by omega) | (have := dsv (by omega); right; omega)⟩))
                  | (simp only [Int.sub_zero, Int.add_zero]; exact nx 0 0 _ (Or.inl rfl) (by rcases g6 with ⟨g6, g7⟩ | ⟨g6, g7⟩ <;> rw [g7] <;> simp <;> omega) (Or.inr ⟨rfl, by first | exact Or.inl (by omega) | (have := dsv (by omega); right; omega)⟩))
              · refine z_iload h dX8_isFit_101 rfl ?_
                refine z_raload_n h dX8_isFit_103 rfl ?_
                refine z_getr h dX8_isFit_104 fX8_49 L57 rfl ?_
                refine z_iconst h dX8_isFit_107 ?_
                refine z_iald h dX8_isFit_108 L71 (by decide) (by omega) ?_
                refine z_icmp_ge h dX8_isFit_109 (by omega) (by omega) (fun b109 => ?_) (fun b109 => ?_)
                · refine z_iconst h dX8_isFit_136 ?_
                  refine z_goto h dX8_isFit_137 ?_
                  refine z_ist1 h dX8_isFit_141 (by decide) (zst1_6 rfl) ?_
                  refine z_iinc h dX8_isFit_143 (by decide) rfl (zst1_7 rfl) ?_
                  refine z_goto h dX8_isFit_146 ?_
                  rw [show (t : Int) + 1 = ((t + 1 : Nat) : Int) by omega]
                  first
                    | (exfalso; omega)
                    | (simp only [Int.sub_zero, Int.add_zero]; exact nx 1 1 _ (Or.inr rfl) (by rcases g6 with ⟨g6, g7⟩ | ⟨g6, g7⟩ <;> rw [g7] <;> simp <;> omega) (Or.inl ⟨rfl, by omega, by first | exact Or.inl (by omega) | (have := dsv (by omega); right; omega)⟩))
                    | (simp only [Int.sub_zero, Int.add_zero]; exact nx 1 0 _ (Or.inr rfl) (by rcases g6 with ⟨g6, g7⟩ | ⟨g6, g7⟩ <;> rw [g7] <;> simp <;> omega) (Or.inr ⟨rfl, by first | exact Or.inl (by omega) | (have := dsv (by omega); right; omega)⟩))
                    | (simp only [Int.sub_zero, Int.add_zero]; exact nx 0 1 _ (Or.inl rfl) (by rcases g6 with ⟨g6, g7⟩ | ⟨g6, g7⟩ <;> rw [g7] <;> simp <;> omega) (Or.inl ⟨rfl, by omega, by first | exact Or.inl (by omega) | (have := dsv (by omega); right; omega)⟩))
                    | (simp only [Int.sub_zero, Int.add_zero]; exact nx 0 0 _ (Or.inl rfl) (by rcases g6 with ⟨g6, g7⟩ | ⟨g6, g7⟩ <;> rw [g7] <;> simp <;> omega) (Or.inr ⟨rfl, by first | exact Or.inl (by omega) | (have := dsv (by omega); right; omega)⟩))
                · refine z_raload_n h dX8_isFit_112 rfl ?_
                  refine z_getr h dX8_isFit_113 fX8_52 L57 rfl ?_
                  refine z_iload h dX8_isFit_116 rfl ?_
                  refine z_iald h dX8_isFit_118 L72 (by decide) (by omega) ?_
                  refine z_bipush h dX8_isFit_119 (by decide) ?_
                  refine z_icmp_eq h dX8_isFit_121 (by omega) (by omega) (fun b121 => ?_) (fun b121 => ?_)
                  · refine z_iconst h dX8_isFit_136 ?_
                    refine z_goto h dX8_isFit_137 ?_
                    refine z_ist1 h dX8_isFit_141 (by decide) (zst1_6 rfl) ?_
                    refine z_iinc h dX8_isFit_143 (by decide) rfl (zst1_7 rfl) ?_
                    refine z_goto h dX8_isFit_146 ?_
                    rw [show (t : Int) + 1 = ((t + 1 : Nat) : Int) by omega]
                    first
                      | (exfalso; omega)
                      | (simp only [Int.sub_zero, Int.add_zero]; exact nx 1 1 _ (Or.inr rfl) (by rcases g6 with ⟨g6, g7⟩ | ⟨g6, g7⟩ <;> rw [g7] <;> simp <;> omega) (Or.inl ⟨rfl, by omega, by first | exact Or.inl (by omega) | (have := dsv (by omega); right; omega)⟩))
                      | (simp only [Int.sub_zero, Int.add_zero]; exact nx 1 0 _ (Or.inr rfl) (by rcases g6 with ⟨g6, g7⟩ | ⟨g6, g7⟩ <;> rw [g7] <;> simp <;> omega) (Or.inr ⟨rfl, by first | exact Or.inl (by omega) | (have := dsv (by omega); right; omega)⟩))
                      | (simp only [Int.sub_zero, Int.add_zero]; exact nx 0 1 _ (Or.inl rfl) (by rcases g6 with ⟨g6, g7⟩ | ⟨g6, g7⟩ <;> rw [g7] <;> simp <;> omega) (Or.inl ⟨rfl, by omega, by first | exact Or.inl (by omega) | (have := dsv (by omega); right; omega)⟩))
                      | (simp only [Int.sub_zero, Int.add_zero]; exact nx 0 0 _ (Or.inl rfl) (by rcases g6 with ⟨g6, g7⟩ | ⟨g6, g7⟩ <;> rw [g7] <;> simp <;> omega) (Or.inr ⟨rfl, by first | exact Or.inl (by omega) | (have := dsv (by omega); right; omega)⟩))
                  · refine z_raload_n h dX8_isFit_124 rfl ?_
                    refine z_getr h dX8_isFit_125 fX8_52 L57 rfl ?_
                    refine z_iload h dX8_isFit_128 rfl ?_
                    refine z_iald h dX8_isFit_130 L72 (by decide) (by omega) ?_
                    refine z_iload h dX8_isFit_131 rfl ?_
                    refine z_icmp_ne h dX8_isFit_133 (by omega) (by omega) (fun b133 => ?_) (fun b133 => ?_)
                    · refine z_iconst h dX8_isFit_140 ?_
                      refine z_ist1 h dX8_isFit_141 (by decide) (zst1_6 rfl) ?_
                      refine z_iinc h dX8_isFit_143 (by decide) rfl (zst1_7 rfl) ?_
                      refine z_goto h dX8_isFit_146 ?_
                      rw [show (t : Int) + 1 = ((t + 1 : Nat) : Int) by omega]
                      first
                        | (exfalso; omega)
                        | (simp only [Int.sub_zero, Int.add_zero]; exact nx 1 1 _ (Or.inr rfl) (by rcases g6 with ⟨g6, g7⟩ | ⟨g6, g7⟩ <;> rw [g7] <;> simp <;> omega) (Or.inl ⟨rfl, by omega, by first | exact Or.inl (by omega) | (have := dsv (by omega); right; omega)⟩))
                        | (simp only [Int.sub_zero, Int.add_zero]; exact nx 1 0 _ (Or.inr rfl) (by rcases g6 with ⟨g6, g7⟩ | ⟨g6, g7⟩ <;> rw [g7] <;> simp <;> omega) (Or.inr ⟨rfl, by first | exact Or.inl (by omega) | (have := dsv (by omega); right; omega)⟩))
                        | (simp only [Int.sub_zero, Int.add_zero]; exact nx 0 1 _ (Or.inl rfl) (by rcases g6 with ⟨g6, g7⟩ | ⟨g6, g7⟩ <;> rw [g7] <;> simp <;> omega) (Or.inl ⟨rfl, by omega, by first | exact Or.inl (by omega) | (have := dsv (by omega); right; omega)⟩))
                        | (simp only [Int.sub_zero, Int.add_zero]; exact nx 0 0 _ (Or.inl rfl) (by rcases g6 with ⟨g6, g7⟩ | ⟨g6, g7⟩ <;> rw [g7] <;> simp <;> omega) (Or.inr ⟨rfl, by first | exact Or.inl (by omega) | (have := dsv (by omega); right; omega)⟩))
                    · refine z_iconst h dX8_isFit_136 ?_
                      refine z_goto h dX8_isFit_137 ?_
                      refine z_ist1 h dX8_isFit_141 (by decide) (zst1_6 rfl) ?_
                      refine z_iinc h dX8_isFit_143 (by decide) rfl (zst1_7 rfl) ?_
                      refine z_goto h dX8_isFit_146 ?_
                      rw [show (t : Int) + 1 = ((t + 1 : Nat) : Int) by omega]
                      first
                        | (exfalso; omega)
                        | (simp only [Int.sub_zero, Int.add_zero]; exact nx 1 1 _ (Or.inr rfl) (by rcases g6 with ⟨g6, g7⟩ | ⟨g6, g7⟩ <;> rw [g7] <;> simp <;> omega) (Or.inl ⟨rfl, by omega, by first | exact Or.inl (by omega) | (have := dsv (by omega); right; omega)⟩))
                        | (simp only [Int.sub_zero, Int.add_zero]; exact nx 1 0 _ (Or.inr rfl) (by rcases g6 with ⟨g6, g7⟩ | ⟨g6, g7⟩ <;> rw [g7] <;> simp <;> omega) (Or.inr ⟨rfl, by first | exact Or.inl (by omega) | (have := dsv (by omega); right; omega)⟩))
                        | (simp only [Int.sub_zero, Int.add_zero]; exact nx 0 1 _ (Or.inl rfl) (by rcases g6 with ⟨g6, g7⟩ | ⟨g6, g7⟩ <;> rw [g7] <;> simp <;> omega) (Or.inl ⟨rfl, by omega, by first | exact Or.inl (by omega) | (have := dsv (by omega); right; omega)⟩))
                        | (simp only [Int.sub_zero, Int.add_zero]; exact nx 0 0 _ (Or.inl rfl) (by rcases g6 with ⟨g6, g7⟩ | ⟨g6, g7⟩ <;> rw [g7] <;> simp <;> omega) (Or.inr ⟨rfl, by first | exact Or.inl (by omega) | (have := dsv (by omega); right; omega)⟩))
            · refine z_iconst h dX8_isFit_89 ?_
              refine z_goto h dX8_isFit_90 ?_
              refine z_iadd h dX8_isFit_94 ?_
              refine z_ist1_n h dX8_isFit_95 (by decide) (zst1_3 rfl) ?_
              refine z_iload h dX8_isFit_96 rfl ?_
              refine z_if_eq h dX8_isFit_98 (by omega) (fun b98 => ?_) (fun b98 => ?_)
              · refine z_iconst h dX8_isFit_140 ?_
                refine z_ist1 h dX8_isFit_141 (by decide) (zst1_6 rfl) ?_
                refine z_iinc h dX8_isFit_143 (by decide) rfl (zst1_7 rfl) ?_
                refine z_goto h dX8_isFit_146 ?_
                rw [show (t : Int) + 1 = ((t + 1 : Nat) : Int) by omega]
                first
                  | (exfalso; omega)
                  | (simp only [Int.sub_zero, Int.add_zero]; exact nx 1 1 _ (Or.inr rfl) (by rcases g6 with ⟨g6, g7⟩ | ⟨g6, g7⟩ <;> rw [g7] <;> simp <;> omega) (Or.inl ⟨rfl, by omega, by first | exact Or.inl (by omega) | (have := dsv (by omega); right; omega)⟩))
                  | (simp only [Int.sub_zero, Int.add_zero]; exact nx 1 0 _ (Or.inr rfl) (by rcases g6 with ⟨g6, g7⟩ | ⟨g6, g7⟩ <;> rw [g7] <;> simp <;> omega) (Or.inr ⟨rfl, by first | exact Or.inl (by omega) | (have := dsv (by omega); right; omega)⟩))
                  | (simp only [Int.sub_zero, Int.add_zero]; exact nx 0 1 _ (Or.inl rfl) (by rcases g6 with ⟨g6, g7⟩ | ⟨g6, g7⟩ <;> rw [g7] <;> simp <;> omega) (Or.inl ⟨rfl, by omega, by first | exact Or.inl (by omega) | (have := dsv (by omega); right; omega)⟩))
                  | (simp only [Int.sub_zero, Int.add_zero]; exact nx 0 0 _ (Or.inl rfl) (by rcases g6 with ⟨g6, g7⟩ | ⟨g6, g7⟩ <;> rw [g7] <;> simp <;> omega) (Or.inr ⟨rfl, by first | exact Or.inl (by omega) | (have := dsv (by omega); right; omega)⟩))
              · refine z_iload h dX8_isFit_101 rfl ?_
                refine z_raload_n h dX8_isFit_103 rfl ?_
                refine z_getr h dX8_isFit_104 fX8_49 L57 rfl ?_
                refine z_iconst h dX8_isFit_107 ?_
                refine z_iald h dX8_isFit_108 L71 (by decide) (by omega) ?_
                refine z_icmp_ge h dX8_isFit_109 (by omega) (by omega) (fun b109 => ?_) (fun b109 => ?_)
                · refine z_iconst h dX8_isFit_136 ?_
                  refine z_goto h dX8_isFit_137 ?_
                  refine z_ist1 h dX8_isFit_141 (by decide) (zst1_6 rfl) ?_
                  refine z_iinc h dX8_isFit_143 (by decide) rfl (zst1_7 rfl) ?_
                  refine z_goto h dX8_isFit_146 ?_
                  rw [show (t : Int) + 1 = ((t + 1 : Nat) : Int) by omega]
                  first
                    | (exfalso; omega)
                    | (simp only [Int.sub_zero, Int.add_zero]; exact nx 1 1 _ (Or.inr rfl) (by rcases g6 with ⟨g6, g7⟩ | ⟨g6, g7⟩ <;> rw [g7] <;> simp <;> omega) (Or.inl ⟨rfl, by omega, by first | exact Or.inl (by omega) | (have := dsv (by omega); right; omega)⟩))
                    | (simp only [Int.sub_zero, Int.add_zero]; exact nx 1 0 _ (Or.inr rfl) (by rcases g6 with ⟨g6, g7⟩ | ⟨g6, g7⟩ <;> rw [g7] <;> simp <;> omega) (Or.inr ⟨rfl, by first | exact Or.inl (by omega) | (have := dsv (by omega); right; omega)⟩))
                    | (simp only [Int.sub_zero, Int.add_zero]; exact nx 0 1 _ (Or.inl rfl) (by rcases g6 with ⟨g6, g7⟩ | ⟨g6, g7⟩ <;> rw [g7] <;> simp <;> omega) (Or.inl ⟨rfl, by omega, by first | exact Or.inl (by omega) | (have := dsv (by omega); right; omega)⟩))
                    | (simp only [Int.sub_zero, Int.add_zero]; exact nx 0 0 _ (Or.inl rfl) (by rcases g6 with ⟨g6, g7⟩ | ⟨g6, g7⟩ <;> rw [g7] <;> simp <;> omega) (Or.inr ⟨rfl, by first | exact Or.inl (by omega) | (have := dsv (by omega); right; omega)⟩))
                · refine z_raload_n h dX8_isFit_112 rfl ?_
                  refine z_getr h dX8_isFit_113 fX8_52 L57 rfl ?_
                  refine z_iload h dX8_isFit_116 rfl ?_
                  refine z_iald h dX8_isFit_118 L72 (by decide) (by omega) ?_
                  refine z_bipush h dX8_isFit_119 (by decide) ?_
                  refine z_icmp_eq h dX8_isFit_121 (by omega) (by omega) (fun b121 => ?_) (fun b121 => ?_)
                  · refine z_iconst h dX8_isFit_136 ?_
                    refine z_goto h dX8_isFit_137 ?_
                    refine z_ist1 h dX8_isFit_141 (by decide) (zst1_6 rfl) ?_
                    refine z_iinc h dX8_isFit_143 (by decide) rfl (zst1_7 rfl) ?_
                    refine z_goto h dX8_isFit_146 ?_
                    rw [show (t : Int) + 1 = ((t + 1 : Nat) : Int) by omega]
                    first
                      | (exfalso; omega)
                      | (simp only [Int.sub_zero, Int.add_zero]; exact nx 1 1 _ (Or.inr rfl) (by rcases g6 with ⟨g6, g7⟩ | ⟨g6, g7⟩ <;> rw [g7] <;> simp <;> omega) (Or.inl ⟨rfl, by omega, by first | exact Or.inl (by omega) | (have := dsv (by omega); right; omega)⟩))
                      | (simp only [Int.sub_zero, Int.add_zero]; exact nx 1 0 _ (Or.inr rfl) (by rcases g6 with ⟨g6, g7⟩ | ⟨g6, g7⟩ <;> rw [g7] <;> simp <;> omega) (Or.inr ⟨rfl, by first | exact Or.inl (by omega) | (have := dsv (by omega); right; omega)⟩))
                      | (simp only [Int.sub_zero, Int.add_zero]; exact nx 0 1 _ (Or.inl rfl) (by rcases g6 with ⟨g6, g7⟩ | ⟨g6, g7⟩ <;> rw [g7] <;> simp <;> omega) (Or.inl ⟨rfl, by omega, by first | exact Or.inl (by omega) | (have := dsv (by omega); right; omega)⟩))
                      | (simp only [Int.sub_zero, Int.add_zero]; exact nx 0 0 _ (Or.inl rfl) (by rcases g6 with ⟨g6, g7⟩ | ⟨g6, g7⟩ <;> rw [g7] <;> simp <;> omega) (Or.inr ⟨rfl, by first | exact Or.inl (by omega) | (have := dsv (by omega); right; omega)⟩))
                  · refine z_raload_n h dX8_isFit_124 rfl ?_
                    refine z_getr h dX8_isFit_125 fX8_52 L57 rfl ?_
                    refine z_iload h dX8_isFit_128 rfl ?_
                    refine z_iald h dX8_isFit_130 L72 (by decide) (by omega) ?_
                    refine z_iload h dX8_isFit_131 rfl ?_
                    refine z_icmp_ne h dX8_isFit_133 (by omega) (by omega) (fun b133 => ?_) (fun b133 => ?_)
                    · refine z_iconst h dX8_isFit_140 ?_
                      refine z_ist1 h dX8_isFit_141 (by decide) (zst1_6 rfl) ?_
                      refine z_iinc h dX8_isFit_143 (by decide) rfl (zst1_7 rfl) ?_
                      refine z_goto h dX8_isFit_146 ?_
                      rw [show (t : Int) + 1 = ((t + 1 : Nat) : Int) by omega]
                      first
                        | (exfalso; omega)
                        | (simp only [Int.sub_zero, Int.add_zero]; exact nx 1 1 _ (Or.inr rfl) (by rcases g6 with ⟨g6, g7⟩ | ⟨g6, g7⟩ <;> rw [g7] <;> simp <;> omega) (Or.inl ⟨rfl, by omega, by first | exact Or.inl (by omega) | (have := dsv (by omega); right; omega)⟩))
                        | (simp only [Int.sub_zero, Int.add_zero]; exact nx 1 0 _ (Or.inr rfl) (by rcases g6 with ⟨g6, g7⟩ | ⟨g6, g7⟩ <;> rw [g7] <;> simp <;> omega) (Or.inr ⟨rfl, by first | exact Or.inl (by omega) | (have := dsv (by omega); right; omega)⟩))
                        | (simp only [Int.sub_zero, Int.add_zero]; exact nx 0 1 _ (Or.inl rfl) (by rcases g6 with ⟨g6, g7⟩ | ⟨g6, g7⟩ <;> rw [g7] <;> simp <;> omega) (Or.inl ⟨rfl, by omega, by first | exact Or.inl (by omega) | (have := dsv (by omega); right; omega)⟩))
                        | (simp only [Int.sub_zero, Int.add_zero]; exact nx 0 0 _ (Or.inl rfl) (by rcases g6 with ⟨g6, g7⟩ | ⟨g6, g7⟩ <;> rw [g7] <;> simp <;> omega) (Or.inr ⟨rfl, by first | exact Or.inl (by omega) | (have := dsv (by omega); right; omega)⟩))
                    · refine z_iconst h dX8_isFit_136 ?_
                      refine z_goto h dX8_isFit_137 ?_
                      refine z_ist1 h dX8_isFit_141 (by decide) (zst1_6 rfl) ?_
                      refine z_iinc h dX8_isFit_143 (by decide) rfl (zst1_7 rfl) ?_
                      refine z_goto h dX8_isFit_146 ?_
                      rw [show (t : Int) + 1 = ((t + 1 : Nat) : Int) by omega]
                      first
                        | (exfalso; omega)
                        | (simp only [Int.sub_zero, Int.add_zero]; exact nx 1 1 _ (Or.inr rfl) (by rcases g6 with ⟨g6, g7⟩ | ⟨g6, g7⟩ <;> rw [g7] <;> simp <;> omega) (Or.inl ⟨rfl, by omega, by first | exact Or.inl (by omega) | (have := dsv (by omega); right; omega)⟩))
                        | (simp only [Int.sub_zero, Int.add_zero]; exact nx 1 0 _ (Or.inr rfl) (by rcases g6 with ⟨g6, g7⟩ | ⟨g6, g7⟩ <;> rw [g7] <;> simp <;> omega) (Or.inr ⟨rfl, by first | exact Or.inl (by omega) | (have := dsv (by omega); right; omega)⟩))
                        | (simp only [Int.sub_zero, Int.add_zero]; exact nx 0 1 _ (Or.inl rfl) (by rcases g6 with ⟨g6, g7⟩ | ⟨g6, g7⟩ <;> rw [g7] <;> simp <;> omega) (Or.inl ⟨rfl, by omega, by first | exact Or.inl (by omega) | (have := dsv (by omega); right; omega)⟩))
                        | (simp only [Int.sub_zero, Int.add_zero]; exact nx 0 0 _ (Or.inl rfl) (by rcases g6 with ⟨g6, g7⟩ | ⟨g6, g7⟩ <;> rw [g7] <;> simp <;> omega) (Or.inr ⟨rfl, by first | exact Or.inl (by omega) | (have := dsv (by omega); right; omega)⟩))
          · refine z_iconst h dX8_isFit_75 ?_
            refine z_goto h dX8_isFit_76 ?_
            refine z_isub h dX8_isFit_80 ?_
            refine z_ist1 h dX8_isFit_81 (by decide) (zst1_4 rfl) ?_
            refine z_iload_n h dX8_isFit_83 rfl ?_
            refine z_iload h dX8_isFit_84 rfl ?_
            refine z_if_eq h dX8_isFit_86 (by omega) (fun b86 => ?_) (fun b86 => ?_)
            · refine z_iconst h dX8_isFit_93 ?_
              refine z_iadd h dX8_isFit_94 ?_
              refine z_ist1_n h dX8_isFit_95 (by decide) (zst1_3 rfl) ?_
              refine z_iload h dX8_isFit_96 rfl ?_
              refine z_if_eq h dX8_isFit_98 (by omega) (fun b98 => ?_) (fun b98 => ?_)
              · refine z_iconst h dX8_isFit_140 ?_
                refine z_ist1 h dX8_isFit_141 (by decide) (zst1_6 rfl) ?_
                refine z_iinc h dX8_isFit_143 (by decide) rfl (zst1_7 rfl) ?_
                refine z_goto h dX8_isFit_146 ?_
                rw [show (t : Int) + 1 = ((t + 1 : Nat) : Int) by omega]
                first
                  | (exfalso; omega)
                  | (simp only [Int.sub_zero, Int.add_zero]; exact nx 1 1 _ (Or.inr rfl) (by rcases g6 with ⟨g6, g7⟩ | ⟨g6, g7⟩ <;> rw [g7] <;> simp <;> omega) (Or.inl ⟨rfl, by omega, by first | exact Or.inl (by omega) | (have := dsv (by omega); right; omega)⟩))
                  | (simp only [Int.sub_zero, Int.add_zero]; exact nx 1 0 _ (Or.inr rfl) (by rcases g6 with ⟨g6, g7⟩ | ⟨g6, g7⟩ <;> rw [g7] <;> simp <;> omega) (Or.inr ⟨rfl, by first | exact Or.inl (by omega) | (have := dsv (by omega); right; omega)⟩))
                  | (simp only [Int.sub_zero, Int.add_zero]; exact nx 0 1 _ (Or.inl rfl) (by rcases g6 with ⟨g6, g7⟩ | ⟨g6, g7⟩ <;> rw [g7] <;> simp <;> omega) (Or.inl ⟨rfl, by omega, by first | exact Or.inl (by omega) | (have := dsv (by omega); right; omega)⟩))
                  | (simp only [Int.sub_zero, Int.add_zero]; exact nx 0 0 _ (Or.inl rfl) (by rcases g6 with ⟨g6, g7⟩ | ⟨g6, g7⟩ <;> rw [g7] <;> simp <;> omega) (Or.inr ⟨rfl, by first | exact Or.inl (by omega) | (have := dsv (by omega); right; omega)⟩))
              · refine z_iload h dX8_isFit_101 rfl ?_
                refine z_raload_n h dX8_isFit_103 rfl ?_
                refine z_getr h dX8_isFit_104 fX8_49 L57 rfl ?_
                refine z_iconst h dX8_isFit_107 ?_
                refine z_iald h dX8_isFit_108 L71 (by decide) (by omega) ?_
                refine z_icmp_ge h dX8_isFit_109 (by omega) (by omega) (fun b109 => ?_) (fun b109 => ?_)
                · refine z_iconst h dX8_isFit_136 ?_
                  refine z_goto h dX8_isFit_137 ?_
                  refine z_ist1 h dX8_isFit_141 (by decide) (zst1_6 rfl) ?_
                  refine z_iinc h dX8_isFit_143 (by decide) rfl (zst1_7 rfl) ?_
                  refine z_goto h dX8_isFit_146 ?_
                  rw [show (t : Int) + 1 = ((t + 1 : Nat) : Int) by omega]
                  first
                    | (exfalso; omega)
                    | (simp only [Int.sub_zero, Int.add_zero]; exact nx 1 1 _ (Or.inr rfl) (by rcases g6 with ⟨g6, g7⟩ | ⟨g6, g7⟩ <;> rw [g7] <;> simp <;> omega) (Or.inl ⟨rfl, by omega, by first | exact Or.inl (by omega) | (have := dsv (by omega); right; omega)⟩))
                    | (simp only [Int.sub_zero, Int.add_zero]; exact nx 1 0 _ (Or.inr rfl) (by rcases g6 with ⟨g6, g7⟩ | ⟨g6, g7⟩ <;> rw [g7] <;> simp <;> omega) (Or.inr ⟨rfl, by first | exact Or.inl (by omega) | (have := dsv (by omega); right; omega)⟩))
                    | (simp only [Int.sub_zero, Int.add_zero]; exact nx 0 1 _ (Or.inl rfl) (by rcases g6 with ⟨g6, g7⟩ | ⟨g6, g7⟩ <;> rw [g7] <;> simp <;> omega) (Or.inl ⟨rfl, by omega, by first | exact Or.inl (by omega) | (have := dsv (by omega); right; omega)⟩))
                    | (simp only [Int.sub_zero, Int.add_zero]; exact nx 0 0 _ (Or.inl rfl) (by rcases g6 with ⟨g6, g7⟩ | ⟨g6, g7⟩ <;> rw [g7] <;> simp <;> omega) (Or.inr ⟨rfl, by first | exact Or.inl (by omega) | (have := dsv (by omega); right; omega)⟩))
                · refine z_raload_n h dX8_isFit_112 rfl ?_
                  refine z_getr h dX8_isFit_113 fX8_52 L57 rfl ?_
                  refine z_iload h dX8_isFit_116 rfl ?_
                  refine z_iald h dX8_isFit_118 L72 (by decide) (by omega) ?_
                  refine z_bipush h dX8_isFit_119 (by decide) ?_
                  refine z_icmp_eq h dX8_isFit_121 (by omega) (by omega) (fun b121 => ?_) (fun b121 => ?_)
                  · refine z_iconst h dX8_isFit_136 ?_
                    refine z_goto h dX8_isFit_137 ?_
                    refine z_ist1 h dX8_isFit_141 (by decide) (zst1_6 rfl) ?_
                    refine z_iinc h dX8_isFit_143 (by decide) rfl (zst1_7 rfl) ?_
                    refine z_goto h dX8_isFit_146 ?_
                    rw [show (t : Int) + 1 = ((t + 1 : Nat) : Int) by omega]
                    first
                      | (exfalso; omega)
                      | (simp only [Int.sub_zero, Int.add_zero]; exact nx 1 1 _ (Or.inr rfl) (by rcases g6 with ⟨g6, g7⟩ | ⟨g6, g7⟩ <;> rw [g7] <;> simp <;> omega) (Or.inl ⟨rfl, by omega, by first | exact Or.inl (by omega) | (have := dsv (by omega); right; omega)⟩))
                      | (simp only [Int.sub_zero, Int.add_zero]; exact nx 1 0 _ (Or.inr rfl) (by rcases g6 with ⟨g6, g7⟩ | ⟨g6, g7⟩ <;> rw [g7] <;> simp <;> omega) (Or.inr ⟨rfl, by first | exact Or.inl (by omega) | (have := dsv (by omega); right; omega)⟩))
                      | (simp only [Int.sub_zero, Int.add_zero]; exact nx 0 1 _ (Or.inl rfl) (by rcases g6 with ⟨g6, g7⟩ | ⟨g6, g7⟩ <;> rw [g7] <;> simp <;> omega) (Or.inl ⟨rfl, by omega, by first | exact Or.inl (by omega) | (have := dsv (by omega); right; omega)⟩))
                      | (simp only [Int.sub_zero, Int.add_zero]; exact nx 0 0 _ (Or.inl rfl) (by rcases g6 with ⟨g6, g7⟩ | ⟨g6, g7⟩ <;> rw [g7] <;> simp <;> omega) (Or.inr ⟨rfl, by first | exact Or.inl (by omega) | (have := dsv (by omega); right; omega)⟩))
                  · refine z_raload_n h dX8_isFit_124 rfl ?_
                    refine z_getr h dX8_isFit_125 fX8_52 L57 rfl ?_
                    refine z_iload h dX8_isFit_128 rfl ?_
                    refine z_iald h dX8_isFit_130 L72 (by decide) (by omega) ?_
                    refine z_iload h dX8_isFit_131 rfl ?_
                    refine z_icmp_ne h dX8_isFit_133 (by omega) (by omega) (fun b133 => ?_) (fun b133 => ?_)
                    · refine z_iconst h dX8_isFit_140 ?_
                      refine z_ist1 h dX8_isFit_141 (by decide) (zst1_6 rfl) ?_
                      refine z_iinc h dX8_isFit_143 (by decide) rfl (zst1_7 rfl) ?_
                      refine z_goto h dX8_isFit_146 ?_
                      rw [show (t : Int) + 1 = ((t + 1 : Nat) : Int) by omega]
                      first
                        | (exfalso; omega)
                        | (simp only [Int.sub_zero, Int.add_zero]; exact nx 1 1 _ (Or.inr rfl) (by rcases g6 with ⟨g6, g7⟩ | ⟨g6, g7⟩ <;> rw [g7] <;> simp <;> omega) (Or.inl ⟨rfl, by omega, by first | exact Or.inl (by omega) | (have := dsv (by omega); right; omega)⟩))
                        | (simp only [Int.sub_zero, Int.add_zero]; exact nx 1 0 _ (Or.inr rfl) (by rcases g6 with ⟨g6, g7⟩ | ⟨g6, g7⟩ <;> rw [g7] <;> simp <;> omega) (Or.inr ⟨rfl, by first | exact Or.inl (by omega) | (have := dsv (by omega); right; omega)⟩))
                        | (simp only [Int.sub_zero, Int.add_zero]; exact nx 0 1 _ (Or.inl rfl) (by rcases g6 with ⟨g6, g7⟩ | ⟨g6, g7⟩ <;> rw [g7] <;> simp <;> omega) (Or.inl ⟨rfl, by omega, by first | exact Or.inl (by omega) | (have := dsv (by omega); right; omega)⟩))
                        | (simp only [Int.sub_zero, Int.add_zero]; exact nx 0 0 _ (Or.inl rfl) (by rcases g6 with ⟨g6, g7⟩ | ⟨g6, g7⟩ <;> rw [g7] <;> simp <;> omega) (Or.inr ⟨rfl, by first | exact Or.inl (by omega) | (have := dsv (by omega); right; omega)⟩))
                    · refine z_iconst h dX8_isFit_136 ?_
                      refine z_goto h dX8_isFit_137 ?_
                      refine z_ist1 h dX8_isFit_141 (by decide) (zst1_6 rfl) ?_
                      refine z_iinc h dX8_isFit_143 (by decide) rfl (zst1_7 rfl) ?_
                      refine z_goto h dX8_isFit_146 ?_
                      rw [show (t : Int) + 1 = ((t + 1 : Nat) : Int) by omega]
                      first
                        | (exfalso; omega)
                        | (simp only [Int.sub_zero, Int.add_zero]; exact nx 1 1 _ (Or.inr rfl) (by rcases g6 with ⟨g6, g7⟩ | ⟨g6, g7⟩ <;> rw [g7] <;> simp <;> omega) (Or.inl ⟨rfl, by omega, by first | exact Or.inl (by omega) | (have := dsv (by omega); right; omega)⟩))
                        | (simp only [Int.sub_zero, Int.add_zero]; exact nx 1 0 _ (Or.inr rfl) (by rcases g6 with ⟨g6, g7⟩ | ⟨g6, g7⟩ <;> rw [g7] <;> simp <;> omega) (Or.inr ⟨rfl, by first | exact Or.inl (by omega) | (have := dsv (by omega); right; omega)⟩))
                        | (simp only [Int.sub_zero, Int.add_zero]; exact nx 0 1 _ (Or.inl rfl) (by rcases g6 with ⟨g6, g7⟩ | ⟨g6, g7⟩ <;> rw [g7] <;> simp <;> omega) (Or.inl ⟨rfl, by omega, by first | exact Or.inl (by omega) | (have := dsv (by omega); right; omega)⟩))
                        | (simp only [Int.sub_zero, Int.add_zero]; exact nx 0 0 _ (Or.inl rfl) (by rcases g6 with ⟨g6, g7⟩ | ⟨g6, g7⟩ <;> rw [g7] <;> simp <;> omega) (Or.inr ⟨rfl, by first | exact Or.inl (by omega) | (have := dsv (by omega); right; omega)⟩))
            · refine z_iconst h dX8_isFit_89 ?_
              refine z_goto h dX8_isFit_90 ?_
              refine z_iadd h dX8_isFit_94 ?_
              refine z_ist1_n h dX8_isFit_95 (by decide) (zst1_3 rfl) ?_
              refine z_iload h dX8_isFit_96 rfl ?_
              refine z_if_eq h dX8_isFit_98 (by omega) (fun b98 => ?_) (fun b98 => ?_)
              · refine z_iconst h dX8_isFit_140 ?_
                refine z_ist1 h dX8_isFit_141 (by decide) (zst1_6 rfl) ?_
                refine z_iinc h dX8_isFit_143 (by decide) rfl (zst1_7 rfl) ?_
                refine z_goto h dX8_isFit_146 ?_
                rw [show (t : Int) + 1 = ((t + 1 : Nat) : Int) by omega]
                first
                  | (exfalso; omega)
                  | (simp only [Int.sub_zero, Int.add_zero]; exact nx 1 1 _ (Or.inr rfl) (by rcases g6 with ⟨g6, g7⟩ | ⟨g6, g7⟩ <;> rw [g7] <;> simp <;> omega) (Or.inl ⟨rfl, by omega, by first | exact Or.inl (by omega) | (have := dsv (by omega); right; omega)⟩))
                  | (simp only [Int.sub_zero, Int.add_zero]; exact nx 1 0 _ (Or.inr rfl) (by rcases g6 with ⟨g6, g7⟩ | ⟨g6, g7⟩ <;> rw [g7] <;> simp <;> omega) (Or.inr ⟨rfl, by first | exact Or.inl (by omega) | (have := dsv (by omega); right; omega)⟩))
                  | (simp only [Int.sub_zero, Int.add_zero]; exact nx 0 1 _ (Or.inl rfl) (by rcases g6 with ⟨g6, g7⟩ | ⟨g6, g7⟩ <;> rw [g7] <;> simp <;> omega) (Or.inl ⟨rfl, by omega, by first | exact Or.inl (by omega) | (have := dsv (by omega); right; omega)⟩))
                  | (simp only [Int.sub_zero, Int.add_zero]; exact nx 0 0 _ (Or.inl rfl) (by rcases g6 with ⟨g6, g7⟩ | ⟨g6, g7⟩ <;> rw [g7] <;> simp <;> omega) (Or.inr ⟨rfl, by first | exact Or.inl (by omega) | (have := dsv (by omega); right; omega)⟩))
              · refine z_iload h dX8_isFit_101 rfl ?_
                refine z_raload_n h dX8_isFit_103 rfl ?_
                refine z_getr h dX8_isFit_104 fX8_49 L57 rfl ?_
                refine z_iconst h dX8_isFit_107 ?_
                refine z_iald h dX8_isFit_108 L71 (by decide) (by omega) ?_
                refine z_icmp_ge h dX8_isFit_109 (by omega) (by omega) (fun b109 => ?_) (fun b109 => ?_)
                · refine z_iconst h dX8_isFit_136 ?_
                  refine z_goto h dX8_isFit_137 ?_
                  refine z_ist1 h dX8_isFit_141 (by decide) (zst1_6 rfl) ?_
                  refine z_iinc h dX8_isFit_143 (by decide) rfl (zst1_7 rfl) ?_
                  refine z_goto h dX8_isFit_146 ?_
                  rw [show (t : Int) + 1 = ((t + 1 : Nat) : Int) by omega]
                  first
                    | (exfalso; omega)
                    | (simp only [Int.sub_zero, Int.add_zero]; exact nx 1 1 _ (Or.inr rfl) (by rcases g6 with ⟨g6, g7⟩ | ⟨g6, g7⟩ <;> rw [g7] <;> simp <;> omega) (Or.inl ⟨rfl, by omega, by first | exact Or.inl (by omega) | (have := dsv (by omega); right; omega)⟩))
                    | (simp only [Int.sub_zero, Int.add_zero]; exact nx 1 0 _ (Or.inr rfl) (by rcases g6 with ⟨g6, g7⟩ | ⟨g6, g7⟩ <;> rw [g7] <;> simp <;> omega) (Or.inr ⟨rfl, by first | exact Or.inl (by omega) | (have := dsv (by omega); right; omega)⟩))
                    | (simp only [Int.sub_zero, Int.add_zero]; exact nx 0 1 _ (Or.inl rfl) (by rcases g6 with ⟨g6, g7⟩ | ⟨g6, g7⟩ <;> rw [g7] <;> simp <;> omega) (Or.inl ⟨rfl, by omega, by first | exact Or.inl (by omega) | (have := dsv (by omega); right; omega)⟩))
                    | (simp only [Int.sub_zero, Int.add_zero]; exact nx 0 0 _ (Or.inl rfl) (by rcases g6 with ⟨g6, g7⟩ | ⟨g6, g7⟩ <;> rw [g7] <;> simp <;> omega) (Or.inr ⟨rfl, by first | exact Or.inl (by omega) | (have := dsv (by omega); right; omega)⟩))
                · refine z_raload_n h dX8_isFit_112 rfl ?_
                  refine z_getr h dX8_isFit_113 fX8_52 L57 rfl ?_
                  refine z_iload h dX8_isFit_116 rfl ?_
                  refine z_iald h dX8_isFit_118 L72 (by decide) (by omega) ?_
                  refine z_bipush h dX8_isFit_119 (by decide) ?_
                  refine z_icmp_eq h dX8_isFit_121 (by omega) (by omega) (fun b121 => ?_) (fun b121 => ?_)
                  · refine z_iconst h dX8_isFit_136 ?_
                    refine z_goto h dX8_isFit_137 ?_
                    refine z_ist1 h dX8_isFit_141 (by decide) (zst1_6 rfl) ?_
                    refine z_iinc h dX8_isFit_143 (by decide) rfl (zst1_7 rfl) ?_
                    refine z_goto h dX8_isFit_146 ?_
                    rw [show (t : Int) + 1 = ((t + 1 : Nat) : Int) by omega]
                    first
                      | (exfalso; omega)
                      | (simp only [Int.sub_zero, Int.add_zero]; exact nx 1 1 _ (Or.inr rfl) (by rcases g6 with ⟨g6, g7⟩ | ⟨g6, g7⟩ <;> rw [g7] <;> simp <;> omega) (Or.inl ⟨rfl, by omega, by first | exact Or.inl (by omega) | (have := dsv (by omega); right; omega)⟩))
                      | (simp only [Int.sub_zero, Int.add_zero]; exact nx 1 0 _ (Or.inr rfl) (by rcases g6 with ⟨g6, g7⟩ | ⟨g6, g7⟩ <;> rw [g7] <;> simp <;> omega) (Or.inr ⟨rfl, by first | exact Or.inl (by omega) | (have := dsv (by omega); right; omega)⟩))
                      | (simp only [Int.sub_zero, Int.add_zero]; exact nx 0 1 _ (Or.inl rfl) (by rcases g6 with ⟨g6, g7⟩ | ⟨g6, g7⟩ <;> rw [g7] <;> simp <;> omega) (Or.inl ⟨rfl, by omega, by first | exact Or.inl (by omega) | (have := dsv (by omega); right; omega)⟩))
                      | (simp only [Int.sub_zero, Int.add_zero]; exact nx 0 0 _ (Or.inl rfl) (by rcases g6 with ⟨g6, g7⟩ | ⟨g6, g7⟩ <;> rw [g7] <;> simp <;> omega) (Or.inr ⟨rfl, by first | exact Or.inl (by omega) | (have := dsv (by omega); right; omega)⟩))
                  · refine z_raload_n h dX8_isFit_124 rfl ?_
                    refine z_getr h dX8_isFit_125 fX8_52 L57 rfl ?_
                    refine z_iload h dX8_isFit_128 rfl ?_
                    refine z_iald h dX8_isFit_130 L72 (by decide) (by omega) ?_
                    refine z_iload h dX8_isFit_131 rfl ?_
                    refine z_icmp_ne h dX8_isFit_133 (by omega) (by omega) (fun b133 => ?_) (fun b133 => ?_)
                    · refine z_iconst h dX8_isFit_140 ?_
                      refine z_ist1 h dX8_isFit_141 (by decide) (zst1_6 rfl) ?_
                      refine z_iinc h dX8_isFit_143 (by decide) rfl (zst1_7 rfl) ?_
                      refine z_goto h dX8_isFit_146 ?_
                      rw [show (t : Int) + 1 = ((t + 1 : Nat) : Int) by omega]
                      first
                        | (exfalso; omega)
                        | (simp only [Int.sub_zero, Int.add_zero]; exact nx 1 1 _ (Or.inr rfl) (by rcases g6 with ⟨g6, g7⟩ | ⟨g6, g7⟩ <;> rw [g7] <;> simp <;> omega) (Or.inl ⟨rfl, by omega, by first | exact Or.inl (by omega) | (have := dsv (by omega); right; omega)⟩))
                        | (simp only [Int.sub_zero, Int.add_zero]; exact nx 1 0 _ (Or.inr rfl) (by rcases g6 with ⟨g6, g7⟩ | ⟨g6, g7⟩ <;> rw [g7] <;> simp <;> omega) (Or.inr ⟨rfl, by first | exact Or.inl (by omega) | (have := dsv (by omega); right; omega)⟩))
                        | (simp only [Int.sub_zero, Int.add_zero]; exact nx 0 1 _ (Or.inl rfl) (by rcases g6 with ⟨g6, g7⟩ | ⟨g6, g7⟩ <;> rw [g7] <;> simp <;> omega) (Or.inl ⟨rfl, by omega, by first | exact Or.inl (by omega) | (have := dsv (by omega); right; omega)⟩))
                        | (simp only [Int.sub_zero, Int.add_zero]; exact nx 0 0 _ (Or.inl rfl) (by rcases g6 with ⟨g6, g7⟩ | ⟨g6, g7⟩ <;> rw [g7] <;> simp <;> omega) (Or.inr ⟨rfl, by first | exact Or.inl (by omega) | (have := dsv (by omega); right; omega)⟩))
                    · refine z_iconst h dX8_isFit_136 ?_
                      refine z_goto h dX8_isFit_137 ?_
                      refine z_ist1 h dX8_isFit_141 (by decide) (zst1_6 rfl) ?_
                      refine z_iinc h dX8_isFit_143 (by decide) rfl (zst1_7 rfl) ?_
                      refine z_goto h dX8_isFit_146 ?_
                      rw [show (t : Int) + 1 = ((t + 1 : Nat) : Int) by omega]
                      first
                        | (exfalso; omega)
                        | (simp only [Int.sub_zero, Int.add_zero]; exact nx 1 1 _ (Or.inr rfl) (by rcases g6 with ⟨g6, g7⟩ | ⟨g6, g7⟩ <;> rw [g7] <;> simp <;> omega) (Or.inl ⟨rfl, by omega, by first | exact Or.inl (by omega) | (have := dsv (by omega); right; omega)⟩))
                        | (simp only [Int.sub_zero, Int.add_zero]; exact nx 1 0 _ (Or.inr rfl) (by rcases g6 with ⟨g6, g7⟩ | ⟨g6, g7⟩ <;> rw [g7] <;> simp <;> omega) (Or.inr ⟨rfl, by first | exact Or.inl (by omega) | (have := dsv (by omega); right; omega)⟩))
                        | (simp only [Int.sub_zero, Int.add_zero]; exact nx 0 1 _ (Or.inl rfl) (by rcases g6 with ⟨g6, g7⟩ | ⟨g6, g7⟩ <;> rw [g7] <;> simp <;> omega) (Or.inl ⟨rfl, by omega, by first | exact Or.inl (by omega) | (have := dsv (by omega); right; omega)⟩))
                        | (simp only [Int.sub_zero, Int.add_zero]; exact nx 0 0 _ (Or.inl rfl) (by rcases g6 with ⟨g6, g7⟩ | ⟨g6, g7⟩ <;> rw [g7] <;> simp <;> omega) (Or.inr ⟨rfl, by first | exact Or.inl (by omega) | (have := dsv (by omega); right; omega)⟩))
        · refine z_iload h dX8_isFit_58 rfl ?_
          refine z_goto h dX8_isFit_60 ?_
          refine z_iadd h dX8_isFit_64 ?_
          refine z_iald h dX8_isFit_65 L72 (by decide) (by omega) ?_
          refine z_ist1 h dX8_isFit_66 (by decide) (zst1_8 rfl) ?_
          refine z_iload h dX8_isFit_68 rfl ?_
          refine z_iload h dX8_isFit_70 rfl ?_
          refine z_if_eq h dX8_isFit_72 (by omega) (fun b72 => ?_) (fun b72 => ?_)
          · refine z_iconst h dX8_isFit_79 ?_
            refine z_isub h dX8_isFit_80 ?_
            refine z_ist1 h dX8_isFit_81 (by decide) (zst1_4 rfl) ?_
            refine z_iload_n h dX8_isFit_83 rfl ?_
            refine z_iload h dX8_isFit_84 rfl ?_
            refine z_if_eq h dX8_isFit_86 (by omega) (fun b86 => ?_) (fun b86 => ?_)
            · refine z_iconst h dX8_isFit_93 ?_
              refine z_iadd h dX8_isFit_94 ?_
              refine z_ist1_n h dX8_isFit_95 (by decide) (zst1_3 rfl) ?_
              refine z_iload h dX8_isFit_96 rfl ?_
              refine z_if_eq h dX8_isFit_98 (by omega) (fun b98 => ?_) (fun b98 => ?_)
              · refine z_iconst h dX8_isFit_140 ?_
                refine z_ist1 h dX8_isFit_141 (by decide) (zst1_6 rfl) ?_
                refine z_iinc h dX8_isFit_143 (by decide) rfl (zst1_7 rfl) ?_
                refine z_goto h dX8_isFit_146 ?_
                rw [show (t : Int) + 1 = ((t + 1 : Nat) : Int) by omega]
                first
                  | (exfalso; omega)
                  | (simp only [Int.sub_zero, Int.add_zero]; exact nx 1 1 _ (Or.inr rfl) (by rcases g6 with ⟨g6, g7⟩ | ⟨g6, g7⟩ <;> rw [g7] <;> simp <;> omega) (Or.inl ⟨rfl, by omega, by first | exact Or.inl (by omega) | (have := dsv (by omega); right; omega)⟩))
                  | (simp only [Int.sub_zero, Int.add_zero]; exact nx 1 0 _ (Or.inr rfl) (by rcases g6 with ⟨g6, g7⟩ | ⟨g6, g7⟩ <;> rw [g7] <;> simp <;> omega) (Or.inr ⟨rfl, by first | exact Or.inl (by omega) | (have := dsv (by omega); right; omega)⟩))
                  | (simp only [Int.sub_zero, Int.add_zero]; exact nx 0 1 _ (Or.inl rfl) (by rcases g6 with ⟨g6, g7⟩ | ⟨g6, g7⟩ <;> rw [g7] <;> simp <;> omega) (Or.inl ⟨rfl, by omega, by first | exact Or.inl (by omega) | (have := dsv (by omega); right; omega)⟩))
                  | (simp only [Int.sub_zero, Int.add_zero]; exact nx 0 0 _ (Or.inl rfl) (by rcases g6 with ⟨g6, g7⟩ | ⟨g6, g7⟩ <;> rw [g7] <;> simp <;> omega) (Or.inr ⟨rfl, by first | exact Or.inl (by omega) | (have := dsv (by omega); right; omega)⟩))
              · refine z_iload h dX8_isFit_101 rfl ?_
                refine z_raload_n h dX8_isFit_103 rfl ?_
                refine z_getr h dX8_isFit_104 fX8_49 L57 rfl ?_
                refine z_iconst h dX8_isFit_107 ?_
                refine z_iald h dX8_isFit_108 L71 (by decide) (by omega) ?_
                refine z_icmp_ge h dX8_isFit_109 (by omega) (by omega) (fun b109 => ?_) (fun b109 => ?_)
                · refine z_iconst h dX8_isFit_136 ?_
                  refine z_goto h dX8_isFit_137 ?_
                  refine z_ist1 h dX8_isFit_141 (by decide) (zst1_6 rfl) ?_
                  refine z_iinc h dX8_isFit_143 (by decide) rfl (zst1_7 rfl) ?_
                  refine z_goto h dX8_isFit_146 ?_
                  rw [show (t : Int) + 1 = ((t + 1 : Nat) : Int) by omega]
                  first
                    | (exfalso; omega)
                    | (simp only [Int.sub_zero, Int.add_zero]; exact nx 1 1 _ (Or.inr rfl) (by rcases g6 with ⟨g6, g7⟩ | ⟨g6, g7⟩ <;> rw [g7] <;> simp <;> omega) (Or.inl ⟨rfl, by omega, by first | exact Or.inl (by omega) | (have := dsv (by omega); right; omega)⟩))
                    | (simp only [Int.sub_zero, Int.add_zero]; exact nx 1 0 _ (Or.inr rfl) (by rcases g6 with ⟨g6, g7⟩ | ⟨g6, g7⟩ <;> rw [g7] <;> simp <;> omega) (Or.inr ⟨rfl, by first | exact Or.inl (by omega) | (have := dsv (by omega); right; omega)⟩))
                    | (simp only [Int.sub_zero, Int.add_zero]; exact nx 0 1 _ (Or.inl rfl) (by rcases g6 with ⟨g6, g7⟩ | ⟨g6, g7⟩ <;> rw [g7] <;> simp <;> omega) (Or.inl ⟨rfl, by omega, by first | exact Or.inl (by omega) | (have := dsv (by omega); right; omega)⟩))
                    | (simp only [Int.sub_zero, Int.add_zero]; exact nx 0 0 _ (Or.inl rfl) (by rcases g6 with ⟨g6, g7⟩ | ⟨g6, g7⟩ <;> rw [g7] <;> simp <;> omega) (Or.inr ⟨rfl, by first | exact Or.inl (by omega) | (have := dsv (by omega); right; omega)⟩))
                · refine z_raload_n h dX8_isFit_112 rfl ?_
                  refine z_getr h dX8_isFit_113 fX8_52 L57 rfl ?_
                  refine z_iload h dX8_isFit_116 rfl ?_
                  refine z_iald h dX8_isFit_118 L72 (by decide) (by omega) ?_
                  refine z_bipush h dX8_isFit_119 (by decide) ?_
                  refine z_icmp_eq h dX8_isFit_121 (by omega) (by omega) (fun b121 => ?_) (fun b121 => ?_)
                  · refine z_iconst h dX8_isFit_136 ?_
                    refine z_goto h dX8_isFit_137 ?_
                    refine z_ist1 h dX8_isFit_141 (by decide) (zst1_6 rfl) ?_
                    refine z_iinc h dX8_isFit_143 (by decide) rfl (zst1_7 rfl) ?_
                    refine z_goto h dX8_isFit_146 ?_
                    rw [show (t : Int) + 1 = ((t + 1 : Nat) : Int) by omega]
                    first
                      | (exfalso; omega)
                      | (simp only [Int.sub_zero, Int.add_zero]; exact nx 1 1 _ (Or.inr rfl) (by rcases g6 with ⟨g6, g7⟩ | ⟨g6, g7⟩ <;> rw [g7] <;> simp <;> omega) (Or.inl ⟨rfl, by omega, by first | exact Or.inl (by omega) | (have := dsv (by omega); right; omega)⟩))
                      | (simp only [Int.sub_zero, Int.add_zero]; exact nx 1 0 _ (Or.inr rfl) (by rcases g6 with ⟨g6, g7⟩ | ⟨g6, g7⟩ <;> rw [g7] <;> simp <;> omega) (Or.inr ⟨rfl, by first | exact Or.inl (by omega) | (have := dsv (by omega); right; omega)⟩))
                      | (simp only [Int.sub_zero, Int.add_zero]; exact nx 0 1 _ (Or.inl rfl) (by rcases g6 with ⟨g6, g7⟩ | ⟨g6, g7⟩ <;> rw [g7] <;> simp <;> omega) (Or.inl ⟨rfl, by omega, by first | exact Or.inl (by omega) | (have := dsv (by omega); right; omega)⟩))
                      | (simp only [Int.sub_zero, Int.add_zero]; exact nx 0 0 _ (Or.inl rfl) (by rcases g6 with ⟨g6, g7⟩ | ⟨g6, g7⟩ <;> rw [g7] <;> simp <;> omega) (Or.inr ⟨rfl, by first | exact Or.inl (by omega) | (have := dsv (by omega); right; omega)⟩))
                  · refine z_raload_n h dX8_isFit_124 rfl ?_
                    refine z_getr h dX8_isFit_125 fX8_52 L57 rfl ?_
                    refine z_iload h dX8_isFit_128 rfl ?_
                    refine z_iald h dX8_isFit_130 L72 (by decide) (by omega) ?_
                    refine z_iload h dX8_isFit_131 rfl ?_
                    refine z_icmp_ne h dX8_isFit_133 (by omega) (by omega) (fun b133 => ?_) (fun b133 => ?_)
                    · refine z_iconst h dX8_isFit_140 ?_
                      refine z_ist1 h dX8_isFit_141 (by decide) (zst1_6 rfl) ?_
                      refine z_iinc h dX8_isFit_143 (by decide) rfl (zst1_7 rfl) ?_
                      refine z_goto h dX8_isFit_146 ?_
                      rw [show (t : Int) + 1 = ((t + 1 : Nat) : Int) by omega]
                      first
                        | (exfalso; omega)
                        | (simp only [Int.sub_zero, Int.add_zero]; exact nx 1 1 _ (Or.inr rfl) (by rcases g6 with ⟨g6, g7⟩ | ⟨g6, g7⟩ <;> rw [g7] <;> simp <;> omega) (Or.inl ⟨rfl, by omega, by first | exact Or.inl (by omega) | (have := dsv (by omega); right; omega)⟩))
                        | (simp only [Int.sub_zero, Int.add_zero]; exact nx 1 0 _ (Or.inr rfl) (by rcases g6 with ⟨g6, g7⟩ | ⟨g6, g7⟩ <;> rw [g7] <;> simp <;> omega) (Or.inr ⟨rfl, by first | exact Or.inl (by omega) | (have := dsv (by omega); right; omega)⟩))
                        | (simp only [Int.sub_zero, Int.add_zero]; exact nx 0 1 _ (Or.inl rfl) (by rcases g6 with ⟨g6, g7⟩ | ⟨g6, g7⟩ <;> rw [g7] <;> simp <;> omega) (Or.inl ⟨rfl, by omega, by first | exact Or.inl (by omega) | (have := dsv (by omega); right; omega)⟩))
                        | (simp only [Int.sub_zero, Int.add_zero]; exact nx 0 0 _ (Or.inl rfl) (by rcases g6 with ⟨g6, g7⟩ | ⟨g6, g7⟩ <;> rw [g7] <;> simp <;> omega) (Or.inr ⟨rfl, by first | exact Or.inl (by omega) | (have := dsv (by omega); right; omega)⟩))
                    · refine z_iconst h dX8_isFit_136 ?_
                      refine z_goto h dX8_isFit_137 ?_
                      refine z_ist1 h dX8_isFit_141 (by decide) (zst1_6 rfl) ?_
                      refine z_iinc h dX8_isFit_143 (by decide) rfl (zst1_7 rfl) ?_
                      refine z_goto h dX8_isFit_146 ?_
                      rw [show (t : Int) + 1 = ((t + 1 : Nat) : Int) by omega]
                      first
                        | (exfalso; omega)
                        | (simp only [Int.sub_zero, Int.add_zero]; exact nx 1 1 _ (Or.inr rfl) (by rcases g6 with ⟨g6, g7⟩ | ⟨g6, g7⟩ <;> rw [g7] <;> simp <;> omega) (Or.inl ⟨rfl, by omega, by first | exact Or.inl (by omega) | (have := dsv (by omega); right; omega)⟩))
                        | (simp only [Int.sub_zero, Int.add_zero]; exact nx 1 0 _ (Or.inr rfl) (by rcases g6 with ⟨g6, g7⟩ | ⟨g6, g7⟩ <;> rw [g7] <;> simp <;> omega) (Or.inr ⟨rfl, by first | exact Or.inl (by omega) | (have := dsv (by omega); right; omega)⟩))
                        | (simp only [Int.sub_zero, Int.add_zero]; exact nx 0 1 _ (Or.inl rfl) (by rcases g6 with ⟨g6, g7⟩ | ⟨g6, g7⟩ <;> rw [g7] <;> simp <;> omega) (Or.inl ⟨rfl, by omega, by first | exact Or.inl (by omega) | (have := dsv (by omega); right; omega)⟩))
                        | (simp only [Int.sub_zero, Int.add_zero]; exact nx 0 0 _ (Or.inl rfl) (by rcases g6 with ⟨g6, g7⟩ | ⟨g6, g7⟩ <;> rw [g7] <;> simp <;> omega) (Or.inr ⟨rfl, by first | exact Or.inl (by omega) | (have := dsv (by omega); right; omega)⟩))
            · refine z_iconst h dX8_isFit_89 ?_
              refine z_goto h dX8_isFit_90 ?_
              refine z_iadd h dX8_isFit_94 ?_
              refine z_ist1_n h dX8_isFit_95 (by decide) (zst1_3 rfl) ?_
              refine z_iload h dX8_isFit_96 rfl ?_
              refine z_if_eq h dX8_isFit_98 (by omega) (fun b98 => ?_) (fun b98 => ?_)
              · refine z_iconst h dX8_isFit_140 ?_
                refine z_ist1 h dX8_isFit_141 (by decide) (zst1_6 rfl) ?_
                refine z_iinc h dX8_isFit_143 (by decide) rfl (zst1_7 rfl) ?_
                refine z_goto h dX8_isFit_146 ?_
                rw [show (t : Int) + 1 = ((t + 1 : Nat) : Int) by omega]
                first
                  | (exfalso; omega)
                  | (simp only [Int.sub_zero, Int.add_zero]; exact nx 1 1 _ (Or.inr rfl) (by rcases g6 with ⟨g6, g7⟩ | ⟨g6, g7⟩ <;> rw [g7] <;> simp <;> omega) (Or.inl ⟨rfl, by omega, by first | exact Or.inl (by omega) | (have := dsv (by omega); right; omega)⟩))
                  | (simp only [Int.sub_zero, Int.add_zero]; exact nx 1 0 _ (Or.inr rfl) (by rcases g6 with ⟨g6, g7⟩ | ⟨g6, g7⟩ <;> rw [g7] <;> simp <;> omega) (Or.inr ⟨rfl, by first | exact Or.inl (by omega) | (have := dsv (by omega); right; omega)⟩))
                  | (simp only [Int.sub_zero, Int.add_zero]; exact nx 0 1 _ (Or.inl rfl) (by rcases g6 with ⟨g6, g7⟩ | ⟨g6, g7⟩ <;> rw [g7] <;> simp <;> omega) (Or.inl ⟨rfl, by omega, by first | exact Or.inl (by omega) | (have := dsv (by omega); right; omega)⟩))
                  | (simp only [Int.sub_zero, Int.add_zero]; exact nx 0 0 _ (Or.inl rfl) (by rcases g6 with ⟨g6, g7⟩ | ⟨g6, g7⟩ <;> rw [g7] <;> simp <;> omega) (Or.inr ⟨rfl, by first | exact Or.inl (by omega) | (have := dsv (by omega); right; omega)⟩))
              · refine z_iload h dX8_isFit_101 rfl ?_
                refine z_raload_n h dX8_isFit_103 rfl ?_
                refine z_getr h dX8_isFit_104 fX8_49 L57 rfl ?_
                refine z_iconst h dX8_isFit_107 ?_
                refine z_iald h dX8_isFit_108 L71 (by decide) (by omega) ?_
                refine z_icmp_ge h dX8_isFit_109 (by omega) (by omega) (fun b109 => ?_) (fun b109 => ?_)
                · refine z_iconst h dX8_isFit_136 ?_
                  refine z_goto h dX8_isFit_137 ?_
                  refine z_ist1 h dX8_isFit_141 (by decide) (zst1_6 rfl) ?_
                  refine z_iinc h dX8_isFit_143 (by decide) rfl (zst1_7 rfl) ?_
                  refine z_goto h dX8_isFit_146 ?_
                  rw [show (t : Int) + 1 = ((t + 1 : Nat) : Int) by omega]
                  first
                    | (exfalso; omega)
                    | (simp only [Int.sub_zero, Int.add_zero]; exact nx 1 1 _ (Or.inr rfl) (by rcases g6 with ⟨g6, g7⟩ | ⟨g6, g7⟩ <;> rw [g7] <;> simp <;> omega) (Or.inl ⟨rfl, by omega, by first | exact Or.inl (by omega) | (have := dsv (by omega); right; omega)⟩))
                    | (simp only [Int.sub_zero, Int.add_zero]; exact nx 1 0 _ (Or.inr rfl) (by rcases g6 with ⟨g6, g7⟩ | ⟨g6, g7⟩ <;> rw [g7] <;> simp <;> omega) (Or.inr ⟨rfl, by first | exact Or.inl (by omega) | (have := dsv (by omega); right; omega)⟩))
                    | (simp only [Int.sub_zero, Int.add_zero]; exact nx 0 1 _ (Or.inl rfl) (by rcases g6 with ⟨g6, g7⟩ | ⟨g6, g7⟩ <;> rw [g7] <;> simp <;> omega) (Or.inl ⟨rfl, by omega, by first | exact Or.inl (by omega) | (have := dsv (by omega); right; omega)⟩))
                    | (simp only [Int.sub_zero, Int.add_zero]; exact nx 0 0 _ (Or.inl rfl) (by rcases g6 with ⟨g6, g7⟩ | ⟨g6, g7⟩ <;> rw [g7] <;> simp <;> omega) (Or.inr ⟨rfl, by first | exact Or.inl (by omega) | (have := dsv (by omega); right; omega)⟩))
                · refine z_raload_n h dX8_isFit_112 rfl ?_
                  refine z_getr h dX8_isFit_113 fX8_52 L57 rfl ?_
                  refine z_iload h dX8_isFit_116 rfl ?_
                  refine z_iald h dX8_isFit_118 L72 (by decide) (by omega) ?_
                  refine z_bipush h dX8_isFit_119 (by decide) ?_
                  refine z_icmp_eq h dX8_isFit_121 (by omega) (by omega) (fun b121 => ?_) (fun b121 => ?_)
                  · refine z_iconst h dX8_isFit_136 ?_
                    refine z_goto h dX8_isFit_137 ?_
                    refine z_ist1 h dX8_isFit_141 (by decide) (zst1_6 rfl) ?_
                    refine z_iinc h dX8_isFit_143 (by decide) rfl (zst1_7 rfl) ?_
                    refine z_goto h dX8_isFit_146 ?_
                    rw [show (t : Int) + 1 = ((t + 1 : Nat) : Int) by omega]
                    first
                      | (exfalso; omega)
                      | (simp only [Int.sub_zero, Int.add_zero]; exact nx 1 1 _ (Or.inr rfl) (by rcases g6 with ⟨g6, g7⟩ | ⟨g6, g7⟩ <;> rw [g7] <;> simp <;> omega) (Or.inl ⟨rfl, by omega, by first | exact Or.inl (by omega) | (have := dsv (by omega); right; omega)⟩))
                      | (simp only [Int.sub_zero, Int.add_zero]; exact nx 1 0 _ (Or.inr rfl) (by rcases g6 with ⟨g6, g7⟩ | ⟨g6, g7⟩ <;> rw [g7] <;> simp <;> omega) (Or.inr ⟨rfl, by first | exact Or.inl (by omega) | (have := dsv (by omega); right; omega)⟩))
                      | (simp only [Int.sub_zero, Int.add_zero]; exact nx 0 1 _ (Or.inl rfl) (by rcases g6 with ⟨g6, g7⟩ | ⟨g6, g7⟩ <;> rw [g7] <;> simp <;> omega) (Or.inl ⟨rfl, by omega, by first | exact Or.inl (by omega) | (have := dsv (by omega); right; omega)⟩))
                      | (simp only [Int.sub_zero, Int.add_zero]; exact nx 0 0 _ (Or.inl rfl) (by rcases g6 with ⟨g6, g7⟩ | ⟨g6, g7⟩ <;> rw [g7] <;> simp <;> omega) (Or.inr ⟨rfl, by first | exact Or.inl (by omega) | (have := dsv (by omega); right; omega)⟩))
                  · refine z_raload_n h dX8_isFit_124 rfl ?_
                    refine z_getr h dX8_isFit_125 fX8_52 L57 rfl ?_
                    refine z_iload h dX8_isFit_128 rfl ?_
                    refine z_iald h dX8_isFit_130 L72 (by decide) (by omega) ?_
                    refine z_iload h dX8_isFit_131 rfl ?_
                    refine z_icmp_ne h dX8_isFit_133 (by omega) (by omega) (fun b133 => ?_) (fun b133 => ?_)
                    · refine z_iconst h dX8_isFit_140 ?_
                      refine z_ist1 h dX8_isFit_141 (by decide) (zst1_6 rfl) ?_
                      refine z_iinc h dX8_isFit_143 (by decide) rfl (zst1_7 rfl) ?_
                      refine z_goto h dX8_isFit_146 ?_
                      rw [show (t : Int) + 1 = ((t + 1 : Nat) : Int) by omega]
                      first
                        | (exfalso; omega)
                        | (simp only [Int.sub_zero, Int.add_zero]; exact nx 1 1 _ (Or.inr rfl) (by rcases g6 with ⟨g6, g7⟩ | ⟨g6, g7⟩ <;> rw [g7] <;> simp <;> omega) (Or.inl ⟨rfl, by omega, by first | exact Or.inl (by omega) | (have := dsv (by omega); right; omega)⟩))
                        | (simp only [Int.sub_zero, Int.add_zero]; exact nx 1 0 _ (Or.inr rfl) (by rcases g6 with ⟨g6, g7⟩ | ⟨g6, g7⟩ <;> rw [g7] <;> simp <;> omega) (Or.inr ⟨rfl, by first | exact Or.inl (by omega) | (have := dsv (by omega); right; omega)⟩))
                        | (simp only [Int.sub_zero, Int.add_zero]; exact nx 0 1 _ (Or.inl rfl) (by rcases g6 with ⟨g6, g7⟩ | ⟨g6, g7⟩ <;> rw [g7] <;> simp <;> omega) (Or.inl ⟨rfl, by omega, by first | exact Or.inl (by omega) | (have := dsv (by omega); right; omega)⟩))
                        | (simp only [Int.sub_zero, Int.add_zero]; exact nx 0 0 _ (Or.inl rfl) (by rcases g6 with ⟨g6, g7⟩ | ⟨g6, g7⟩ <;> rw [g7] <;> simp <;> omega) (Or.inr ⟨rfl, by first | exact Or.inl (by omega) | (have := dsv (by omega); right; omega)⟩))
                    · refine z_iconst h dX8_isFit_136 ?_
                      refine z_goto h dX8_isFit_137 ?_
                      refine z_ist1 h dX8_isFit_141 (by decide) (zst1_6 rfl) ?_
                      refine z_iinc h dX8_isFit_143 (by decide) rfl (zst1_7 rfl) ?_
                      refine z_goto h dX8_isFit_146 ?_
                      rw [show (t : Int) + 1 = ((t + 1 : Nat) : Int) by omega]
                      first
                        | (exfalso; omega)
                        | (simp only [Int.sub_zero, Int.add_zero]; exact nx 1 1 _ (Or.inr rfl) (by rcases g6 with ⟨g6, g7⟩ | ⟨g6, g7⟩ <;> rw [g7] <;> simp <;> omega) (Or.inl ⟨rfl, by omega, by first | exact Or.inl (by omega) | (have := dsv (by omega); right; omega)⟩))
                        | (simp only [Int.sub_zero, Int.add_zero]; exact nx 1 0 _ (Or.inr rfl) (by rcases g6 with ⟨g6, g7⟩ | ⟨g6, g7⟩ <;> rw [g7] <;> simp <;> omega) (Or.inr ⟨rfl, by first | exact Or.inl (by omega) | (have := dsv (by omega); right; omega)⟩))
                        | (simp only [Int.sub_zero, Int.add_zero]; exact nx 0 1 _ (Or.inl rfl) (by rcases g6 with ⟨g6, g7⟩ | ⟨g6, g7⟩ <;> rw [g7] <;> simp <;> omega) (Or.inl ⟨rfl, by omega, by first | exact Or.inl (by omega) | (have := dsv (by omega); right; omega)⟩))
                        | (simp only [Int.sub_zero, Int.add_zero]; exact nx 0 0 _ (Or.inl rfl) (by rcases g6 with ⟨g6, g7⟩ | ⟨g6, g7⟩ <;> rw [g7] <;> simp <;> omega) (Or.inr ⟨rfl, by first | exact Or.inl (by omega) | (have := dsv (by omega); right; omega)⟩))
          · refine z_iconst h dX8_isFit_75 ?_
            refine z_goto h dX8_isFit_76 ?_
            refine z_isub h dX8_isFit_80 ?_
            refine z_ist1 h dX8_isFit_81 (by decide) (zst1_4 rfl) ?_
            refine z_iload_n h dX8_isFit_83 rfl ?_
            refine z_iload h dX8_isFit_84 rfl ?_
            refine z_if_eq h dX8_isFit_86 (by omega) (fun b86 => ?_) (fun b86 => ?_)
            · refine z_iconst h dX8_isFit_93 ?_
              refine z_iadd h dX8_isFit_94 ?_
              refine z_ist1_n h dX8_isFit_95 (by decide) (zst1_3 rfl) ?_
              refine z_iload h dX8_isFit_96 rfl ?_
              refine z_if_eq h dX8_isFit_98 (by omega) (fun b98 => ?_) (fun b98 => ?_)
              · refine z_iconst h dX8_isFit_140 ?_
                refine z_ist1 h dX8_isFit_141 (by decide) (zst1_6 rfl) ?_
                refine z_iinc h dX8_isFit_143 (by decide) rfl (zst1_7 rfl) ?_
                refine z_goto h dX8_isFit_146 ?_
                rw [show (t : Int) + 1 = ((t + 1 : Nat) : Int) by omega]
                first
                  | (exfalso; omega)
                  | (simp only [Int.sub_zero, Int.add_zero]; exact nx 1 1 _ (Or.inr rfl) (by rcases g6 with ⟨g6, g7⟩ | ⟨g6, g7⟩ <;> rw [g7] <;> simp <;> omega) (Or.inl ⟨rfl, by omega, by first | exact Or.inl (by omega) | (have := dsv (by omega); right; omega)⟩))
                  | (simp only [Int.sub_zero, Int.add_zero]; exact nx 1 0 _ (Or.inr rfl) (by rcases g6 with ⟨g6, g7⟩ | ⟨g6, g7⟩ <;> rw [g7] <;> simp <;> omega) (Or.inr ⟨rfl, by first | exact Or.inl (by omega) | (have := dsv (by omega); right; omega)⟩))
                  | (simp only [Int.sub_zero, Int.add_zero]; exact nx 0 1 _ (Or.inl rfl) (by rcases g6 with ⟨g6, g7⟩ | ⟨g6, g7⟩ <;> rw [g7] <;> simp <;> omega) (Or.inl ⟨rfl, by omega, by first | exact Or.inl (by omega) | (have := dsv (by omega); right; omega)⟩))
                  | (simp only [Int.sub_zero, Int.add_zero]; exact nx 0 0 _ (Or.inl rfl) (by rcases g6 with ⟨g6, g7⟩ | ⟨g6, g7⟩ <;> rw [g7] <;> simp <;> omega) (Or.inr ⟨rfl, by first | exact Or.inl (by omega) | (have := dsv (by omega); right; omega)⟩))
              · refine z_iload h dX8_isFit_101 rfl ?_
                refine z_raload_n h dX8_isFit_103 rfl ?_
                refine z_getr h dX8_isFit_104 fX8_49 L57 rfl ?_
                refine z_iconst h dX8_isFit_107 ?_
                refine z_iald h dX8_isFit_108 L71 (by decide) (by omega) ?_
                refine z_icmp_ge h dX8_isFit_109 (by omega) (by omega) (fun b109 => ?_) (fun b109 => ?_)
                · refine z_iconst h dX8_isFit_136 ?_
                  refine z_goto h dX8_isFit_137 ?_
                  refine z_ist1 h dX8_isFit_141 (by decide) (zst1_6 rfl) ?_
                  refine z_iinc h dX8_isFit_143 (by decide) rfl (zst1_7 rfl) ?_
                  refine z_goto h dX8_isFit_146 ?_
                  rw [show (t : Int) + 1 = ((t + 1 : Nat) : Int) by omega]
                  first
                    | (exfalso; omega)
                    | (simp only [Int.sub_zero, Int.add_zero]; exact nx 1 1 _ (Or.inr rfl) (by rcases g6 with ⟨g6, g7⟩ | ⟨g6, g7⟩ <;> rw [g7] <;> simp <;> omega) (Or.inl ⟨rfl, by omega, by first | exact Or.inl (by omega) | (have := dsv (by omega); right; omega)⟩))
                    | (simp only [Int.sub_zero, Int.add_zero]; exact nx 1 0 _ (Or.inr rfl) (by rcases g6 with ⟨g6, g7⟩ | ⟨g6, g7⟩ <;> rw [g7] <;> simp <;> omega) (Or.inr ⟨rfl, by first | exact Or.inl (by omega) | (have := dsv (by omega); right; omega)⟩))
                    | (simp only [Int.sub_zero, Int.add_zero]; exact nx 0 1 _ (Or.inl rfl) (by rcases g6 with ⟨g6, g7⟩ | ⟨g6, g7⟩ <;> rw [g7] <;> simp <;> omega) (Or.inl ⟨rfl, by omega, by first | exact Or.inl (by omega) | (have := dsv (by omega); right; omega)⟩))
                    | (simp only [Int.sub_zero, Int.add_zero]; exact nx 0 0 _ (Or.inl rfl) (by rcases g6 with ⟨g6, g7⟩ | ⟨g6, g7⟩ <;> rw [g7] <;> simp <;> omega) (Or.inr ⟨rfl, by first | exact Or.inl (by omega) | (have := dsv (by omega); right; omega)⟩))
                · refine z_raload_n h dX8_isFit_112 rfl ?_
                  refine z_getr h dX8_isFit_113 fX8_52 L57 rfl ?_
                  refine z_iload h dX8_isFit_116 rfl ?_
                  refine z_iald h dX8_isFit_118 L72 (by decide) (by omega) ?_
                  refine z_bipush h dX8_isFit_119 (by decide) ?_
                  refine z_icmp_eq h dX8_isFit_121 (by omega) (by omega) (fun b121 => ?_) (fun b121 => ?_)
                  · refine z_iconst h dX8_isFit_136 ?_
                    refine z_goto h dX8_isFit_137 ?_
                    refine z_ist1 h dX8_isFit_141 (by decide) (zst1_6 rfl) ?_
                    refine z_iinc h dX8_isFit_143 (by decide) rfl (zst1_7 rfl) ?_
                    refine z_goto h dX8_isFit_146 ?_
                    rw [show (t : Int) + 1 = ((t + 1 : Nat) : Int) by omega]
                    first
                      | (exfalso; omega)
                      | (simp only [Int.sub_zero, Int.add_zero]; exact nx 1 1 _ (Or.inr rfl) (by rcases g6 with ⟨g6, g7⟩ | ⟨g6, g7⟩ <;> rw [g7] <;> simp <;> omega) (Or.inl ⟨rfl, by omega, by first | exact Or.inl (by omega) | (have := dsv (by omega); right; omega)⟩))
                      | (simp only [Int.sub_zero, Int.add_zero]; exact nx 1 0 _ (Or.inr rfl) (by rcases g6 with ⟨g6, g7⟩ | ⟨g6, g7⟩ <;> rw [g7] <;> simp <;> omega) (Or.inr ⟨rfl, by first | exact Or.inl (by omega) | (have := dsv (by omega); right; omega)⟩))
                      | (simp only [Int.sub_zero, Int.add_zero]; exact nx 0 1 _ (Or.inl rfl) (by rcases g6 with ⟨g6, g7⟩ | ⟨g6, g7⟩ <;> rw [g7] <;> simp <;> omega) (Or.inl ⟨rfl, by omega, by first | exact Or.inl (by omega) | (have := dsv (by omega); right; omega)⟩))
                      | (simp only [Int.sub_zero, Int.add_zero]; exact nx 0 0 _ (Or.inl rfl) (by rcases g6 with ⟨g6, g7⟩ | ⟨g6, g7⟩ <;> rw [g7] <;> simp <;> omega) (Or.inr ⟨rfl, by first | exact Or.inl (by omega) | (have := dsv (by omega); right; omega)⟩))
                  · refine z_raload_n h dX8_isFit_124 rfl ?_
                    refine z_getr h dX8_isFit_125 fX8_52 L57 rfl ?_
                    refine z_iload h dX8_isFit_128 rfl ?_
                    refine z_iald h dX8_isFit_130 L72 (by decide) (by omega) ?_
                    refine z_iload h dX8_isFit_131 rfl ?_
                    refine z_icmp_ne h dX8_isFit_133 (by omega) (by omega) (fun b133 => ?_) (fun b133 => ?_)
                    · refine z_iconst h dX8_isFit_140 ?_
                      refine z_ist1 h dX8_isFit_141 (by decide) (zst1_6 rfl) ?_
                      refine z_iinc h dX8_isFit_143 (by decide) rfl (zst1_7 rfl) ?_
                      refine z_goto h dX8_isFit_146 ?_
                      rw [show (t : Int) + 1 = ((t + 1 : Nat) : Int) by omega]
                      first
                        | (exfalso; omega)
                        | (simp only [Int.sub_zero, Int.add_zero]; exact nx 1 1 _ (Or.inr rfl) (by rcases g6 with ⟨g6, g7⟩ | ⟨g6, g7⟩ <;> rw [g7] <;> simp <;> omega) (Or.inl ⟨rfl, by omega, by first | exact Or.inl (by omega) | (have := dsv (by omega); right; omega)⟩))
                        | (simp only [Int.sub_zero, Int.add_zero]; exact nx 1 0 _ (Or.inr rfl) (by rcases g6 with ⟨g6, g7⟩ | ⟨g6, g7⟩ <;> rw [g7] <;> simp <;> omega) (Or.inr ⟨rfl, by first | exact Or.inl (by omega) | (have := dsv (by omega); right; omega)⟩))
                        | (simp only [Int.sub_zero, Int.add_zero]; exact nx 0 1 _ (Or.inl rfl) (by rcases g6 with ⟨g6, g7⟩ | ⟨g6, g7⟩ <;> rw [g7] <;> simp <;> omega) (Or.inl ⟨rfl, by omega, by first | exact Or.inl (by omega) | (have := dsv (by omega); right; omega)⟩))
                        | (simp only [Int.sub_zero, Int.add_zero]; exact nx 0 0 _ (Or.inl rfl) (by rcases g6 with ⟨g6, g7⟩ | ⟨g6, g7⟩ <;> rw [g7] <;> simp <;> omega) (Or.inr ⟨rfl, by first | exact Or.inl (by omega) | (have := dsv (by omega); right; omega)⟩))
                    · refine z_iconst h dX8_isFit_136 ?_
                      refine z_goto h dX8_isFit_137 ?_
                      refine z_ist1 h dX8_isFit_141 (by decide) (zst1_6 rfl) ?_
                      refine z_iinc h dX8_isFit_143 (by decide) rfl (zst1_7 rfl) ?_
                      refine z_goto h dX8_isFit_146 ?_
                      rw [show (t : Int) + 1 = ((t + 1 : Nat) : Int) by omega]
                      first
                        | (exfalso; omega)
                        | (simp only [Int.sub_zero, Int.add_zero]; exact nx 1 1 _ (Or.inr rfl) (by rcases g6 with ⟨g6, g7⟩ | ⟨g6, g7⟩ <;> rw [g7] <;> simp <;> omega) (Or.inl ⟨rfl, by omega, by first | exact Or.inl (by omega) | (have := dsv (by omega); right; omega)⟩))
                        | (simp only [Int.sub_zero, Int.add_zero]; exact nx 1 0 _ (Or.inr rfl) (by rcases g6 with ⟨g6, g7⟩ | ⟨g6, g7⟩ <;> rw [g7] <;> simp <;> omega) (Or.inr ⟨rfl, by first | exact Or.inl (by omega) | (have := dsv (by omega); right; omega)⟩))
                        | (simp only [Int.sub_zero, Int.add_zero]; exact nx 0 1 _ (Or.inl rfl) (by rcases g6 with ⟨g6, g7⟩ | ⟨g6, g7⟩ <;> rw [g7] <;> simp <;> omega) (Or.inl ⟨rfl, by omega, by first | exact Or.inl (by omega) | (have := dsv (by omega); right; omega)⟩))
                        | (simp only [Int.sub_zero, Int.add_zero]; exact nx 0 0 _ (Or.inl rfl) (by rcases g6 with ⟨g6, g7⟩ | ⟨g6, g7⟩ <;> rw [g7] <;> simp <;> omega) (Or.inr ⟨rfl, by first | exact Or.inl (by omega) | (have := dsv (by omega); right; omega)⟩))
            · refine z_iconst h dX8_isFit_89 ?_
              refine z_goto h dX8_isFit_90 ?_
              refine z_iadd h dX8_isFit_94 ?_
              refine z_ist1_n h dX8_isFit_95 (by decide) (zst1_3 rfl) ?_
              refine z_iload h dX8_isFit_96 rfl ?_
              refine z_if_eq h dX8_isFit_98 (by omega) (fun b98 => ?_) (fun b98 => ?_)
              · refine z_iconst h dX8_isFit_140 ?_
                refine z_ist1 h dX8_isFit_141 (by decide) (zst1_6 rfl) ?_
                refine z_iinc h dX8_isFit_143 (by decide) rfl (zst1_7 rfl) ?_
                refine z_goto h dX8_isFit_146 ?_
                rw [show (t : Int) + 1 = ((t + 1 : Nat) : Int) by omega]
                first
                  | (exfalso; omega)
                  | (simp only [Int.sub_zero, Int.add_zero]; exact nx 1 1 _ (Or.inr rfl) (by rcases g6 with ⟨g6, g7⟩ | ⟨g6, g7⟩ <;> rw [g7] <;> simp <;> omega) (Or.inl ⟨rfl, by omega, by first | exact Or.inl (by omega) | (have := dsv (by omega); right; omega)⟩))
                  | (simp only [Int.sub_zero, Int.add_zero]; exact nx 1 0 _ (Or.inr rfl) (by rcases g6 with ⟨g6, g7⟩ | ⟨g6, g7⟩ <;> rw [g7] <;> simp <;> omega) (Or.inr ⟨rfl, by first | exact Or.inl (by omega) | (have := dsv (by omega); right; omega)⟩))
                  | (simp only [Int.sub_zero, Int.add_zero]; exact nx 0 1 _ (Or.inl rfl) (by rcases g6 with ⟨g6, g7⟩ | ⟨g6, g7⟩ <;> rw [g7] <;> simp <;> omega) (Or.inl ⟨rfl, by omega, by first | exact Or.inl (by omega) | (have := dsv (by omega); right; omega)⟩))
                  | (simp only [Int.sub_zero, Int.add_zero]; exact nx 0 0 _ (Or.inl rfl) (by rcases g6 with ⟨g6, g7⟩ | ⟨g6, g7⟩ <;> rw [g7] <;> simp <;> omega) (Or.inr ⟨rfl, by first | exact Or.inl (by omega) | (have := dsv (by omega); right; omega)⟩))
              · refine z_iload h dX8_isFit_101 rfl ?_
                refine z_raload_n h dX8_isFit_103 rfl ?_
                refine z_getr h dX8_isFit_104 fX8_49 L57 rfl ?_
                refine z_iconst h dX8_isFit_107 ?_
                refine z_iald h dX8_isFit_108 L71 (by decide) (by omega) ?_
                refine z_icmp_ge h dX8_isFit_109 (by omega) (by omega) (fun b109 => ?_) (fun b109 => ?_)
                · refine z_iconst h dX8_isFit_136 ?_
                  refine z_goto h dX8_isFit_137 ?_
                  refine z_ist1 h dX8_isFit_141 (by decide) (zst1_6 rfl) ?_
                  refine z_iinc h dX8_isFit_143 (by decide) rfl (zst1_7 rfl) ?_
                  refine z_goto h dX8_isFit_146 ?_
                  rw [show (t : Int) + 1 = ((t + 1 : Nat) : Int) by omega]
                  first
                    | (exfalso; omega)
                    | (simp only [Int.sub_zero, Int.add_zero]; exact nx 1 1 _ (Or.inr rfl) (by rcases g6 with ⟨g6, g7⟩ | ⟨g6, g7⟩ <;> rw [g7] <;> simp <;> omega) (Or.inl ⟨rfl, by omega, by first | exact Or.inl (by omega) | (have := dsv (by omega); right; omega)⟩))
                    | (simp only [Int.sub_zero, Int.add_zero]; exact nx 1 0 _ (Or.inr rfl) (by rcases g6 with ⟨g6, g7⟩ | ⟨g6, g7⟩ <;> rw [g7] <;> simp <;> omega) (Or.inr ⟨rfl, by first | exact Or.inl (by omega) | (have := dsv (by omega); right; omega)⟩))
                    | (simp only [Int.sub_zero, Int.add_zero]; exact nx 0 1 _ (Or.inl rfl) (by rcases g6 with ⟨g6, g7⟩ | ⟨g6, g7⟩ <;> rw [g7] <;> simp <;> omega) (Or.inl ⟨rfl, by omega, by first | exact Or.inl (by omega) | (have := dsv (by omega); right; omega)⟩))
                    | (simp only [Int.sub_zero, Int.add_zero]; exact nx 0 0 _ (Or.inl rfl) (by rcases g6 with ⟨g6, g7⟩ | ⟨g6, g7⟩ <;> rw [g7] <;> simp <;> omega) (Or.inr ⟨rfl, by first | exact Or.inl (by omega) | (have := dsv (by omega); right; omega)⟩))
                · refine z_raload_n h dX8_isFit_112 rfl ?_
                  refine z_getr h dX8_isFit_113 fX8_52 L57 rfl ?_
                  refine z_iload h dX8_isFit_116 rfl ?_
                  refine z_iald h dX8_isFit_118 L72 (by decide) (by omega) ?_
                  refine z_bipush h dX8_isFit_119 (by decide) ?_
                  refine z_icmp_eq h dX8_isFit_121 (by omega) (by omega) (fun b121 => ?_) (fun b121 => ?_)
                  · refine z_iconst h dX8_isFit_136 ?_
                    refine z_goto h dX8_isFit_137 ?_
                    refine z_ist1 h dX8_isFit_141 (by decide) (zst1_6 rfl) ?_
                    refine z_iinc h dX8_isFit_143 (by decide) rfl (zst1_7 rfl) ?_
                    refine z_goto h dX8_isFit_146 ?_
                    rw [show (t : Int) + 1 = ((t + 1 : Nat) : Int) by omega]
                    first
                      | (exfalso; omega)
                      | (simp only [Int.sub_zero, Int.add_zero]; exact nx 1 1 _ (Or.inr rfl) (by rcases g6 with ⟨g6, g7⟩ | ⟨g6, g7⟩ <;> rw [g7] <;> simp <;> omega) (Or.inl ⟨rfl, by omega, by first | exact Or.inl (by omega) | (have := dsv (by omega); right; omega)⟩))
                      | (simp only [Int.sub_zero, Int.add_zero]; exact nx 1 0 _ (Or.inr rfl) (by rcases g6 with ⟨g6, g7⟩ | ⟨g6, g7⟩ <;> rw [g7] <;> simp <;> omega) (Or.inr ⟨rfl, by first | exact Or.inl (by omega) | (have := dsv (by omega); right; omega)⟩))
                      | (simp only [Int.sub_zero, Int.add_zero]; exact nx 0 1 _ (Or.inl rfl) (by rcases g6 with ⟨g6, g7⟩ | ⟨g6, g7⟩ <;> rw [g7] <;> simp <;> omega) (Or.inl ⟨rfl, by omega, by first | exact Or.inl (by omega) | (have := dsv (by omega); right; omega)⟩))
                      | (simp only [Int.sub_zero, Int.add_zero]; exact nx 0 0 _ (Or.inl rfl) (by rcases g6 with ⟨g6, g7⟩ | ⟨g6, g7⟩ <;> rw [g7] <;> simp <;> omega) (Or.inr ⟨rfl, by first | exact Or.inl (by omega) | (have := dsv (by omega); right; omega)⟩))
                  · refine z_raload_n h dX8_isFit_124 rfl ?_
                    refine z_getr h dX8_isFit_125 fX8_52 L57 rfl ?_
                    refine z_iload h dX8_isFit_128 rfl ?_
                    refine z_iald h dX8_isFit_130 L72 (by decide) (by omega) ?_
                    refine z_iload h dX8_isFit_131 rfl ?_
                    refine z_icmp_ne h dX8_isFit_133 (by omega) (by omega) (fun b133 => ?_) (fun b133 => ?_)
                    · refine z_iconst h dX8_isFit_140 ?_
                      refine z_ist1 h dX8_isFit_141 (by decide) (zst1_6 rfl) ?_
                      refine z_iinc h dX8_isFit_143 (by decide) rfl (zst1_7 rfl) ?_
                      refine z_goto h dX8_isFit_146 ?_
                      rw [show (t : Int) + 1 = ((t + 1 : Nat) : Int) by omega]
                      first
                        | (exfalso; omega)
                        | (simp only [Int.sub_zero, Int.add_zero]; exact nx 1 1 _ (Or.inr rfl) (by rcases g6 with ⟨g6, g7⟩ | ⟨g6, g7⟩ <;> rw [g7] <;> simp <;> omega) (Or.inl ⟨rfl, by omega, by first | exact Or.inl (by omega) | (have := dsv (by omega); right; omega)⟩))
                        | (simp only [Int.sub_zero, Int.add_zero]; exact nx 1 0 _ (Or.inr rfl) (by rcases g6 with ⟨g6, g7⟩ | ⟨g6, g7⟩ <;> rw [g7] <;> simp <;> omega) (Or.inr ⟨rfl, by first | exact Or.inl (by omega) | (have := dsv (by omega); right; omega)⟩))
                        | (simp only [Int.sub_zero, Int.add_zero]; exact nx 0 1 _ (Or.inl rfl) (by rcases g6 with ⟨g6, g7⟩ | ⟨g6, g7⟩ <;> rw [g7] <;> simp <;> omega) (Or.inl ⟨rfl, by omega, by first | exact Or.inl (by omega) | (have := dsv (by omega); right; omega)⟩))
                        | (simp only [Int.sub_zero, Int.add_zero]; exact nx 0 0 _ (Or.inl rfl) (by rcases g6 with ⟨g6, g7⟩ | ⟨g6, g7⟩ <;> rw [g7] <;> simp <;> omega) (Or.inr ⟨rfl, by first | exact Or.inl (by omega) | (have := dsv (by omega); right; omega)⟩))
                    · refine z_iconst h dX8_isFit_136 ?_
                      refine z_goto h dX8_isFit_137 ?_
                      refine z_ist1 h dX8_isFit_141 (by decide) (zst1_6 rfl) ?_
                      refine z_iinc h dX8_isFit_143 (by decide) rfl (zst1_7 rfl) ?_
                      refine z_goto h dX8_isFit_146 ?_
                      rw [show (t : Int) + 1 = ((t + 1 : Nat) : Int) by omega]
                      first
                        | (exfalso; omega)
                        | (simp only [Int.sub_zero, Int.add_zero]; exact nx 1 1 _ (Or.inr rfl) (by rcases g6 with ⟨g6, g7⟩ | ⟨g6, g7⟩ <;> rw [g7] <;> simp <;> omega) (Or.inl ⟨rfl, by omega, by first | exact Or.inl (by omega) | (have := dsv (by omega); right; omega)⟩))
                        | (simp only [Int.sub_zero, Int.add_zero]; exact nx 1 0 _ (Or.inr rfl) (by rcases g6 with ⟨g6, g7⟩ | ⟨g6, g7⟩ <;> rw [g7] <;> simp <;> omega) (Or.inr ⟨rfl, by first | exact Or.inl (by omega) | (have := dsv (by omega); right; omega)⟩))
                        | (simp only [Int.sub_zero, Int.add_zero]; exact nx 0 1 _ (Or.inl rfl) (by rcases g6 with ⟨g6, g7⟩ | ⟨g6, g7⟩ <;> rw [g7] <;> simp <;> omega) (Or.inl ⟨rfl, by omega, by first | exact Or.inl (by omega) | (have := dsv (by omega); right; omega)⟩))
                        | (simp only [Int.sub_zero, Int.add_zero]; exact nx 0 0 _ (Or.inl rfl) (by rcases g6 with ⟨g6, g7⟩ | ⟨g6, g7⟩ <;> rw [g7] <;> simp <;> omega) (Or.inr ⟨rfl, by first | exact Or.inl (by omega) | (have := dsv (by omega); right; omega)⟩))
  refine z_raload_n h dX8_isFit_0 rfl ?_
  refine z_getr h dX8_isFit_1 fX8_49 L57 rfl ?_
  refine z_iconst h dX8_isFit_4 ?_
  refine z_iald h dX8_isFit_5 L71 (by decide) (by omega) ?_
  rw [s3]
  refine z_ist1_n h dX8_isFit_6 (by decide) (zst1_2 rfl) ?_
  refine z_iconst h dX8_isFit_7 ?_
  refine z_ist1_n h dX8_isFit_8 (by decide) (zst1_3 rfl) ?_
  refine z_iload_n h dX8_isFit_9 rfl ?_
  refine z_iconst h dX8_isFit_10 ?_
  refine z_isub h dX8_isFit_11 ?_
  refine z_ist1 h dX8_isFit_12 (by decide) (zst1_4 rfl) ?_
  refine z_iconst h dX8_isFit_14 ?_
  refine z_ist1 h dX8_isFit_15 (by decide) (zst1_5 rfl) ?_
  refine z_iconst h dX8_isFit_17 ?_
  refine z_ist1 h dX8_isFit_18 (by decide) (zst1_6 rfl) ?_
  refine z_iconst h dX8_isFit_20 ?_
  refine z_ist1 h dX8_isFit_21 (by decide) (zst1_7 rfl) ?_
  exact L sd.length 0 0 _ 0 1 none (by omega) (by omega) (by omega) (by omega) (Or.inl rfl) (Or.inl ⟨rfl, by rw [hF]; rfl⟩)
