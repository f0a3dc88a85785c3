/-- an ITEM told by its letter and numbers -/
def pTake (P : zP) (lt a b c : Int) : Option zP :=
  if lt = 112 then (if P.1.length < 10 ∧ b ≤ 1 ∧ 1 ≤ c then some (P.1 ++ [(a, b, c)], P.2) else none)
  else if lt = 99 then (if pK P a = 1 ∧ P.2.1.length < 8 then some (P.1, P.2.1 ++ [(a, b)], P.2.2) else none)
  else if lt = 115 then (if 1 ≤ a ∧ a ≤ 9 ∧ 1 ≤ b ∧ b ≤ 9 then some (P.1, P.2.1, P.2.2.1, a, b, P.2.2.2.2.2) else none)
  else if lt = 113 then (if a ≤ 30 then some (P.1, P.2.1, a, P.2.2.2) else none)
  else if lt = 98 then some (P.1, P.2.1, P.2.2.1, P.2.2.2.1, P.2.2.2.2.1, a, P.2.2.2.2.2.2)
  else if lt = 108 then (if a ≤ 3 then some (P.1, P.2.1, P.2.2.1, P.2.2.2.1, P.2.2.2.2.1, P.2.2.2.2.2.1, a) else none)
  else none
theorem cPlan_of {σ σ' : zM} {π : Nat} {P : zP} (hP : cPlan σ π P) (q n d b l : Int) (hf : ∀ c, c ≠ π → ∀ i, σ' c i = σ c i) (h5 : σ' π 5 = σ π 5) (h6 : σ' π 6 = q) (h7 : σ' π 7 = n) (h8 : σ' π 8 = d) (h9 : σ' π 9 = b) (h10 : σ' π 10 = l) (ok : (0 ≤ q ∧ q ≤ 30) ∧ (1 ≤ n ∧ n ≤ 9) ∧ (1 ≤ d ∧ d ≤ 9) ∧ (0 ≤ b ∧ b ≤ 99) ∧ (0 ≤ l ∧ l ≤ 3)) : cPlan σ' π (P.1, P.2.1, q, n, d, b, l) := by
  obtain ⟨q1, q2, q3, q4, q5, q6⟩ := hP
  refine ⟨by rw [h5]; exact q1, fun k p hk => ?_, fun k x hk => ?_, cCry_fr q4 (fun c a b i => hf c (by omega) i), ⟨h6, h7, h8, h9, h10⟩, ⟨q6.1, q6.2.1, q6.2.2.1, ok⟩⟩
  · rw [hf (π + 1) (by omega), hf (π + 2) (by omega), hf (π + 3) (by omega)]; exact q2 k p hk
  · rw [hf (π + 4) (by omega)]; exact q3 k x hk
theorem cCry_in {σ σ' : zM} {π : Nat} {P : zP} (hP : cPlan σ π P) (hf : ∀ c, c ≠ π → ∀ i, σ' c i = σ c i) : ∃ l, cCry σ' (π + 5) l := ⟨_, cCry_fr hP.2.2.2.1 (fun c _ _ i => hf c (by omega) i)⟩
theorem pK_in {P : zP} {a : Int} (h : pK P a = 1) : 0 ≤ a ∧ a < P.1.length := by
  unfold pK at h
  split at h
  · assumption
  · omega
theorem c_X4_take (σ : zM) (π : Nat) (hp : zPl π) (P : zP) (hP : cPlan σ π P) (lt a b c : Int) (hlt : -1 ≤ lt ∧ lt ≤ 255) (ha : 0 ≤ a ∧ a ≤ 99) (hb : -1 ≤ b ∧ b ≤ 99) (hc : -1 ≤ c ∧ c ≤ 99) (h2 : lt = 112 ∨ lt = 99 ∨ lt = 115 → 0 ≤ b) (h3 : lt = 112 → 0 ≤ c) : zCi mX4_take (fun w => [zr w π, zi lt, zi a, zi b, zi c]) σ (fun r σ' => zfr π (π + 8) σ σ' ∧ ((∃ P', pTake P lt a b c = some P' ∧ r = 1 ∧ cPlan σ' π P') ∨ (pTake P lt a b c = none ∧ r = 0 ∧ ∃ l, cCry σ' (π + 5) l))) := by
  refine zCi_mk (own := RX4) rfl (by decide +kernel) (fun w => [some (zr w π), some (zi lt), some (zi a), some (zi b), some (zi c)]) (fun _ => rfl) (fun _ => Nat.le_of_ble_eq_true rfl) ?_
  intro Γ h hr
  have q5 := hP.2.2.2.2.1
  have q6 := hP.2.2.2.2.2
  by_cases e1 : lt = 112
  · have hb' := h2 (Or.inl e1)
    have hc' := h3 e1
    have et : pTake P lt a b c = (if P.1.length < 10 ∧ b ≤ 1 ∧ 1 ≤ c then some (P.1 ++ [(a, b, c)], P.2) else none) := by unfold pTake; rw [if_pos e1]
    rw [et] at hr
    refine z_iload_n h dX4_take_0 rfl ?_
    refine z_tabIn (t := 88) h (112) dX4_take_1 (e1) (by decide) (by rfl) (by decide) ?_
    refine z_raload_n h dX4_take_88 rfl ?_
    refine z_iload_n h dX4_take_89 rfl ?_
    refine z_iload_n h dX4_take_90 rfl ?_
    refine z_iload h dX4_take_91 rfl ?_
    refine z_cVi3 h dX4_take_93 lX4_58 vX4_addPerson rfl (zPl_o hp) (c_X4_addPerson σ π hp P hP a b c ha (by omega) (by omega)) rfl (Nat.le_of_ble_eq_true rfl) (by decide) (fun v σ1 h4 => ?_)
    have hv : v = 0 ∨ v = 1 := by (rcases h4 with h4 | h4 <;> simp [h4])
    refine z_irZ h hr dX4_take_96 (by first | decide | omega | simp_all) ?_
    rcases h4 with ⟨a1, a2, a3, rfl, a5, a6⟩ | ⟨a1, rfl, rfl⟩
    · refine ⟨zfr_mono a6 (by omega) (by omega), Or.inl ⟨_, if_pos ⟨a1, a2, a3⟩, rfl, a5⟩⟩
    · exact ⟨zfr_rf, Or.inr ⟨if_neg a1, rfl, _, hP.2.2.2.1⟩⟩
  by_cases e2 : lt = 99
  · have hb' := h2 (Or.inr (Or.inl e2))
    have et : pTake P lt a b c = (if pK P a = 1 ∧ P.2.1.length < 8 then some (P.1, P.2.1 ++ [(a, b)], P.2.2) else none) := by unfold pTake; rw [if_neg e1, if_pos e2]
    rw [et] at hr
    refine z_iload_n h dX4_take_0 rfl ?_
    refine z_tabIn (t := 97) h (99) dX4_take_1 (e2) (by decide) (by rfl) (by decide) ?_
    refine z_raload_n h dX4_take_97 rfl ?_
    refine z_iload_n h dX4_take_98 rfl ?_
    refine z_cVi1 h dX4_take_99 lX4_62 vX4_hasChild rfl (zPl_o hp) (c_X4_hasChild σ π hp P hP a (by omega)) rfl (Nat.le_of_ble_eq_true rfl) (by decide) (fun v σ1 h4 => ?_)
    obtain ⟨rfl, rfl⟩ := h4
    refine z_if_eq h dX4_take_102 (by split <;> omega) (fun b102 => ?_) (fun b102 => ?_)
    · have hK : ¬ pK P a = 1 := fun z => by rw [if_pos z] at b102; omega
      refine z_iconst h dX4_take_118 ?_
      refine z_irZ h hr dX4_take_119 (by decide) ?_
      exact ⟨zfr_rf, Or.inr ⟨if_neg (fun z => hK z.1), rfl, _, hP.2.2.2.1⟩⟩
    · have hK : pK P a = 1 := by (by_cases z : pK P a = 1; exact z; rw [if_neg z] at b102; omega)
      refine z_raload_n h dX4_take_105 rfl ?_
      refine z_iload_n h dX4_take_106 rfl ?_
      refine z_iload_n h dX4_take_107 rfl ?_
      refine z_cVi2 h dX4_take_108 lX4_65 vX4_addCry rfl (zPl_o hp) (c_X4_addCry σ1 π hp P hP a b (by omega) (pK_in hK)) rfl (Nat.le_of_ble_eq_true rfl) (by decide) (fun v2 σ2 h5 => ?_)
      have hv : v2 = 0 ∨ v2 = 1 := by (rcases h5 with h5 | h5 <;> simp [h5])
      refine z_if_eq h dX4_take_111 (by omega) (fun b111 => ?_) (fun b111 => ?_)
      · refine z_iconst h dX4_take_118 ?_
        refine z_irZ h hr dX4_take_119 (by first | decide | omega | simp_all) ?_
        rcases h5 with ⟨a1, a2, a3, a4, a5, a6⟩ | ⟨a1, a4, rfl⟩
        · first | (exfalso; omega) | exact ⟨zfr_mono a6 (by omega) (by omega), Or.inl ⟨_, if_pos ⟨hK, a1⟩, rfl, a5⟩⟩
        · first | (exfalso; omega) | exact ⟨zfr_rf, Or.inr ⟨if_neg (fun z => a1 ⟨z.2, by omega, by omega⟩), rfl, _, hP.2.2.2.1⟩⟩
      · refine z_iconst h dX4_take_114 ?_
        refine z_goto h dX4_take_115 ?_
        refine z_irZ h hr dX4_take_119 (by first | decide | omega | simp_all) ?_
        rcases h5 with ⟨a1, a2, a3, a4, a5, a6⟩ | ⟨a1, a4, rfl⟩
        · first | (exfalso; omega) | exact ⟨zfr_mono a6 (by omega) (by omega), Or.inl ⟨_, if_pos ⟨hK, a1⟩, rfl, a5⟩⟩
        · first | (exfalso; omega) | exact ⟨zfr_rf, Or.inr ⟨if_neg (fun z => a1 ⟨z.2, by omega, by omega⟩), rfl, _, hP.2.2.2.1⟩⟩
  by_cases e3 : lt = 115
  · have hb' := h2 (Or.inr (Or.inr e3))
    have et : pTake P lt a b c = (if 1 ≤ a ∧ a ≤ 9 ∧ 1 ≤ b ∧ b ≤ 9 then some (P.1, P.2.1, P.2.2.1, a, b, P.2.2.2.2.2) else none) := by unfold pTake; rw [if_neg e1, if_neg e2, if_pos e3]
    rw [et] at hr
    refine z_iload_n h dX4_take_0 rfl ?_
    refine z_tabIn (t := 120) h (115) dX4_take_1 (e3) (by decide) (by rfl) (by decide) ?_
    refine z_raload_n h dX4_take_120 rfl ?_
    refine z_iload_n h dX4_take_121 rfl ?_
    refine z_iload_n h dX4_take_122 rfl ?_
    refine z_cVi2 h dX4_take_123 lX4_69 vX4_setService rfl (zPl_o hp) (c_X4_setService σ π hp a b (by omega) (by omega)) rfl (Nat.le_of_ble_eq_true rfl) (by decide) (fun v σ1 h4 => ?_)
    obtain ⟨rfl, rfl⟩ := h4
    have hv : ∀ p : Prop, ∀ _ : Decidable p, (if p then (1 : Int) else 0) = 0 ∨ (if p then (1 : Int) else 0) = 1 := fun p _ => by split <;> simp
    refine z_irZ h hr dX4_take_126 (by first | decide | omega | simp_all) ?_
    refine ⟨zfr_up (zfr_up zfr_rf (by omega) (by omega)) (by omega) (by omega), ?_⟩
    by_cases z : 1 ≤ a ∧ a ≤ 9 ∧ 1 ≤ b ∧ b ≤ 9
    · refine Or.inl ⟨_, if_pos z, if_pos z, cPlan_of hP _ _ _ _ _ ?_ ?_ ?_ ?_ ?_ ?_ ?_ ?_⟩
      · intro c hc i; simp (disch := omega) only [zup_ne]
      · simp (disch := omega) only [zup_nei]
      · simp (disch := omega) only [zup_nei]; exact q5.1
      · simp (disch := omega) only [zup_nei, zup_eq]
      · simp (disch := omega) only [zup_nei, zup_eq]
      · simp (disch := omega) only [zup_nei, zup_eq]; exact q5.2.2.2.1
      · simp (disch := omega) only [zup_nei, zup_eq]; exact q5.2.2.2.2
      · exact ⟨q6.2.2.2.1, by omega, by omega, q6.2.2.2.2.2.2⟩
    · exact Or.inr ⟨if_neg z, if_neg z, cCry_in hP (fun c hc i => by simp (disch := omega) only [zup_ne])⟩
  by_cases e4 : lt = 113
  · have et : pTake P lt a b c = (if a ≤ 30 then some (P.1, P.2.1, a, P.2.2.2) else none) := by unfold pTake; rw [if_neg e1, if_neg e2, if_neg e3, if_pos e4]
    rw [et] at hr
    refine z_iload_n h dX4_take_0 rfl ?_
    refine z_tabIn (t := 127) h (113) dX4_take_1 (e4) (by decide) (by rfl) (by decide) ?_
    refine z_raload_n h dX4_take_127 rfl ?_
    refine z_iload_n h dX4_take_128 rfl ?_
    refine y_put 6 h dX4_take_129 fX4_39 pX4_6 (zPl_o hp) rfl rfl ?_
    refine z_iload_n h dX4_take_132 rfl ?_
    refine z_bipush h dX4_take_133 (by decide) ?_
    refine z_icmp_gt h dX4_take_135 (by omega) (by omega) (fun b135 => ?_) (fun b135 => ?_)
    · refine z_iconst h dX4_take_142 ?_
      refine z_irZ h hr dX4_take_143 (by first | decide | omega | simp_all) ?_
      refine ⟨zfr_up zfr_rf (by omega) (by omega), ?_⟩
      by_cases z : a ≤ 30
      · first | (exfalso; omega) | (refine Or.inl ⟨_, if_pos z, rfl, cPlan_of hP _ _ _ _ _ (fun c hc i => zup_ne hc) (zup_nei (by omega)) (zup_eq _ _ _ _) ((zup_nei (by omega)).trans q5.2.1) ((zup_nei (by omega)).trans q5.2.2.1) ((zup_nei (by omega)).trans q5.2.2.2.1) ((zup_nei (by omega)).trans q5.2.2.2.2) ⟨by omega, q6.2.2.2.2⟩⟩)
      · first | (exfalso; omega) | exact Or.inr ⟨if_neg z, rfl, cCry_in hP (fun c hc i => zup_ne hc)⟩
    · refine z_iconst h dX4_take_138 ?_
      refine z_goto h dX4_take_139 ?_
      refine z_irZ h hr dX4_take_143 (by first | decide | omega | simp_all) ?_
      refine ⟨zfr_up zfr_rf (by omega) (by omega), ?_⟩
      by_cases z : a ≤ 30
      · first | (exfalso; omega) | (refine Or.inl ⟨_, if_pos z, rfl, cPlan_of hP _ _ _ _ _ (fun c hc i => zup_ne hc) (zup_nei (by omega)) (zup_eq _ _ _ _) ((zup_nei (by omega)).trans q5.2.1) ((zup_nei (by omega)).trans q5.2.2.1) ((zup_nei (by omega)).trans q5.2.2.2.1) ((zup_nei (by omega)).trans q5.2.2.2.2) ⟨by omega, q6.2.2.2.2⟩⟩)
      · first | (exfalso; omega) | exact Or.inr ⟨if_neg z, rfl, cCry_in hP (fun c hc i => zup_ne hc)⟩
  by_cases e5 : lt = 98
  · have et : pTake P lt a b c = some (P.1, P.2.1, P.2.2.1, P.2.2.2.1, P.2.2.2.2.1, a, P.2.2.2.2.2.2) := by unfold pTake; rw [if_neg e1, if_neg e2, if_neg e3, if_neg e4, if_pos e5]
    rw [et] at hr
    refine z_iload_n h dX4_take_0 rfl ?_
    refine z_tabIn (t := 144) h (98) dX4_take_1 (e5) (by decide) (by rfl) (by decide) ?_
    refine z_raload_n h dX4_take_144 rfl ?_
    refine z_iload_n h dX4_take_145 rfl ?_
    refine y_put 9 h dX4_take_146 fX4_48 pX4_9 (zPl_o hp) rfl rfl ?_
    refine z_iconst h dX4_take_149 ?_
    refine z_irZ h hr dX4_take_150 (by first | decide | omega | simp_all) ?_
    refine ⟨zfr_up zfr_rf (by omega) (by omega), Or.inl ⟨_, rfl, rfl, cPlan_of hP _ _ _ _ _ (fun c hc i => zup_ne hc) (zup_nei (by omega)) ((zup_nei (by omega)).trans q5.1) ((zup_nei (by omega)).trans q5.2.1) ((zup_nei (by omega)).trans q5.2.2.1) (zup_eq _ _ _ _) ((zup_nei (by omega)).trans q5.2.2.2.2) ⟨q6.2.2.2.1, q6.2.2.2.2.1, q6.2.2.2.2.2.1, by omega, q6.2.2.2.2.2.2.2⟩⟩⟩
  by_cases e6 : lt = 108
  · have et : pTake P lt a b c = (if a ≤ 3 then some (P.1, P.2.1, P.2.2.1, P.2.2.2.1, P.2.2.2.2.1, P.2.2.2.2.2.1, a) else none) := by unfold pTake; rw [if_neg e1, if_neg e2, if_neg e3, if_neg e4, if_neg e5, if_pos e6]
    rw [et] at hr
    refine z_iload_n h dX4_take_0 rfl ?_
    refine z_tabIn (t := 151) h (108) dX4_take_1 (e6) (by decide) (by rfl) (by decide) ?_
    refine z_raload_n h dX4_take_151 rfl ?_
    refine z_iload_n h dX4_take_152 rfl ?_
    refine y_put 10 h dX4_take_153 fX4_51 pX4_10 (zPl_o hp) rfl rfl ?_
    refine z_iload_n h dX4_take_156 rfl ?_
    refine z_iconst h dX4_take_157 ?_
    refine z_icmp_gt h dX4_take_158 (by omega) (by omega) (fun b158 => ?_) (fun b158 => ?_)
    · refine z_iconst h dX4_take_165 ?_
      refine z_irZ h hr dX4_take_166 (by first | decide | omega | simp_all) ?_
      refine ⟨zfr_up zfr_rf (by omega) (by omega), ?_⟩
      by_cases z : a ≤ 3
      · first | (exfalso; omega) | (refine Or.inl ⟨_, if_pos z, rfl, cPlan_of hP _ _ _ _ _ (fun c hc i => zup_ne hc) (zup_nei (by omega)) ((zup_nei (by omega)).trans q5.1) ((zup_nei (by omega)).trans q5.2.1) ((zup_nei (by omega)).trans q5.2.2.1) ((zup_nei (by omega)).trans q5.2.2.2.1) (zup_eq _ _ _ _) ⟨q6.2.2.2.1, q6.2.2.2.2.1, q6.2.2.2.2.2.1, q6.2.2.2.2.2.2.1, by omega⟩⟩)
      · first | (exfalso; omega) | exact Or.inr ⟨if_neg z, rfl, cCry_in hP (fun c hc i => zup_ne hc)⟩
    · refine z_iconst h dX4_take_161 ?_
      refine z_goto h dX4_take_162 ?_
      refine z_irZ h hr dX4_take_166 (by first | decide | omega | simp_all) ?_
      refine ⟨zfr_up zfr_rf (by omega) (by omega), ?_⟩
      by_cases z : a ≤ 3
      · first | (exfalso; omega) | (refine Or.inl ⟨_, if_pos z, rfl, cPlan_of hP _ _ _ _ _ (fun c hc i => zup_ne hc) (zup_nei (by omega)) ((zup_nei (by omega)).trans q5.1) ((zup_nei (by omega)).trans q5.2.1) ((zup_nei (by omega)).trans q5.2.2.1) ((zup_nei (by omega)).trans q5.2.2.2.1) (zup_eq _ _ _ _) ⟨q6.2.2.2.1, q6.2.2.2.2.1, q6.2.2.2.2.2.1, q6.2.2.2.2.2.2.1, by omega⟩⟩)
      · first | (exfalso; omega) | exact Or.inr ⟨if_neg z, rfl, cCry_in hP (fun c hc i => zup_ne hc)⟩
  have et : pTake P lt a b c = none := by unfold pTake; rw [if_neg e1, if_neg e2, if_neg e3, if_neg e4, if_neg e5, if_neg e6]
  rw [et] at hr
  refine z_iload_n h dX4_take_0 rfl ?_
  by_cases ho : lt < 98 ∨ 115 < lt
  · refine z_tabOut (t := 167) h dX4_take_1 (by omega) ho (by decide) ?_
    refine z_iconst h dX4_take_167 ?_
    refine z_irZ h hr dX4_take_168 (by first | decide | omega | simp_all) ?_
    exact ⟨zfr_rf, Or.inr ⟨rfl, rfl, _, hP.2.2.2.1⟩⟩
  · refine z_tabIn (t := 167) (off := 166) h lt dX4_take_1 rfl (by omega) (by rcases (show lt = 100 ∨ lt = 101 ∨ lt = 102 ∨ lt = 103 ∨ lt = 104 ∨ lt = 105 ∨ lt = 106 ∨ lt = 107 ∨ lt = 109 ∨ lt = 110 ∨ lt = 111 ∨ lt = 114 by omega) with rfl | rfl | rfl | rfl | rfl | rfl | rfl | rfl | rfl | rfl | rfl | rfl <;> rfl) (by decide) ?_
    refine z_iconst h dX4_take_167 ?_
    refine z_irZ h hr dX4_take_168 (by first | decide | omega | simp_all) ?_
    exact ⟨zfr_rf, Or.inr ⟨rfl, rfl, _, hP.2.2.2.1⟩⟩
