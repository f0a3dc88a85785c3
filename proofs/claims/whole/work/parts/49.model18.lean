theorem c_X8_name (σ : zM) (S : zSt) (hI : mInv σ S) (w v : Int) (hw : zok w) (hv : zok v) : zCi mX8_name (fun u => [zr u 57, zi w, zi v]) σ (fun r σ' => r = (nName S w v).2 ∧ mInv σ' (nName S w v).1 ∧ zfr 57 79 σ σ') := by
  refine zCi_mk (own := RX8) rfl (by decide +kernel) (fun w0 => [some (zr w0 57), some (zi w), some (zi v), none]) (fun _ => rfl) (fun _ => Nat.le_of_ble_eq_true rfl) ?_
  intro Γ h hr
  have hI0 := hI
  obtain ⟨hT, hP, h3, h4, h5, h6, h7⟩ := hI
  have np10 := hP.2.2.2.2.1
  have q3 := hP.2.2.1
  have c1 := q3.1
  have c2 := q3.2.1
  unfold zok at hw hv
  have bad : ¬ ((0 ≤ w ∧ w ≤ 1) ∧ (0 ≤ v ∧ v ≤ 10) ∧ ¬ (w = 1 ∧ v = 10)) → nName S w v = (S, -1) := fun z => if_neg z
  obtain ⟨l, hl⟩ : ∃ l, l = nL w S.2.2.2.2.1 S.2.2.2.2.2 := ⟨_, rfl⟩
  have good : ((0 ≤ w ∧ w ≤ 1) ∧ (0 ≤ v ∧ v ≤ 10) ∧ ¬ (w = 1 ∧ v = 10)) → nName S w v = (if v ≠ 10 ∧ v ∈ l then (S, -2) else if 9 ≤ l.length then (S, -3) else ((S.1, S.2.1, S.2.2.1, S.2.2.2.1, (if w = 0 then S.2.2.2.2.1 ++ [v] else S.2.2.2.2.1), (if w = 0 then S.2.2.2.2.2 else S.2.2.2.2.2 ++ [v])), (l.length : Int) + 1)) := fun z => by rw [hl]; exact if_pos z
  obtain ⟨s1, s2, s3, s4, s5, s6⟩ := h6
  have gl : 0 ≤ w ∧ w ≤ 1 → σ 71 w = l.length ∧ l.length ≤ 9 ∧ ∀ (k : Nat) (x : Int), l[k]? = some x → σ 72 (9 * w + k) = x ∧ 0 ≤ x ∧ x ≤ 10 := fun z => by
    rcases (show w = 0 ∨ w = 1 by omega) with rfl | rfl
    · have e : l = S.2.2.2.2.1 := by rw [hl]; rfl
      rw [e]
      exact ⟨s1, s2, fun k x hk => by rw [show (9 * 0 + (k : Int)) = k by omega]; exact s5 k x hk⟩
    · have e : l = S.2.2.2.2.2 := by rw [hl]; rfl
      rw [e]
      exact ⟨s3, s4, fun k x hk => by have := s6 k x hk; rw [show (9 * 1 + (k : Int)) = 9 + k by omega]; omega⟩
  have M : ((0 ≤ w ∧ w ≤ 1) ∧ (0 ≤ v ∧ v ≤ 10) ∧ ¬ (w = 1 ∧ v = 10)) → ¬ (v ≠ 10 ∧ v ∈ l) → ∀ l3 : Option Value, zV Γ σ 76 [some (zr (zw Γ) 57), some (zi w), some (zi v), l3] [] := by
    intro hc hn l3
    have hg := good hc
    rw [if_neg hn] at hg
    have gw := gl hc.1
    have gw1 := gw.1
    have gw2 := gw.2.1
    refine z_raload_n h dX8_name_76 rfl ?_
    refine z_getr h dX8_name_77 fX8_49 L57 rfl ?_
    refine z_iload_n h dX8_name_80 rfl ?_
    refine z_iald h dX8_name_81 L71 (by decide) (by omega) ?_
    rw [gw1]
    refine z_bipush h dX8_name_82 (by decide) ?_
    refine z_icmp_ne h dX8_name_84 (by omega) (by omega) (fun b84 => ?_) (fun b84 => ?_)
    · refine z_raload_n h dX8_name_90 rfl ?_
      refine z_getr h dX8_name_91 fX8_52 L57 rfl ?_
      refine z_bipush h dX8_name_94 (by decide) ?_
      refine z_iload_n h dX8_name_96 rfl ?_
      refine z_imul h dX8_name_97 ?_
      refine z_raload_n h dX8_name_98 rfl ?_
      refine z_getr h dX8_name_99 fX8_49 L57 rfl ?_
      refine z_iload_n h dX8_name_102 rfl ?_
      refine z_iald h dX8_name_103 L71 (by decide) (by omega) ?_
      rw [gw1]
      refine z_iadd h dX8_name_104 ?_
      refine z_iload_n h dX8_name_105 rfl ?_
      refine z_iast h dX8_name_106 L72 (by decide) (by omega) ?_
      refine z_raload_n h dX8_name_107 rfl ?_
      refine z_getr h dX8_name_108 fX8_49 L57 rfl ?_
      refine z_iload_n h dX8_name_111 rfl ?_
      refine z_dup2 h dX8_name_112 rfl rfl ?_
      refine z_iald h dX8_name_113 L71 (by decide) (by omega) ?_
      try simp (disch := omega) only [zup_eq, zup_ne, zup_nei]
      rw [gw1]
      refine z_iconst h dX8_name_114 ?_
      refine z_iadd h dX8_name_115 ?_
      refine z_iast h dX8_name_116 L71 (by decide) (by omega) ?_
      refine z_raload_n h dX8_name_117 rfl ?_
      refine z_getr h dX8_name_118 fX8_49 L57 rfl ?_
      refine z_iload_n h dX8_name_121 rfl ?_
      refine z_iald h dX8_name_122 L71 (by decide) (by omega) ?_
      try simp (disch := omega) only [zup_eq, zup_ne, zup_nei]
      refine z_irI h hr dX8_name_123 ?_
      rw [if_neg (by omega)] at hg
      rw [hg]
      refine ⟨rfl, ?_, zfr_up (zfr_up zfr_rf (by omega) (by omega)) (by omega) (by omega)⟩
      have hf : ∀ c i, c ≠ 71 → c ≠ 72 → zup (zup σ 72 (9 * w + l.length) v) 71 w ((l.length : Int) + 1) c i = σ c i := fun c i a b => by rw [zup_ne a, zup_ne b]
      refine ⟨mText_fr hT (hf 57 0 (by omega) (by omega)) (fun i => hf 58 i (by omega) (by omega)), mPlan_fr hP (fun c hc => hf c _ (by omega) (by omega)) (fun c k _ _ _ => hf c _ (by omega) (by omega)) (mCr_fr q3 (hf 68 _ (by omega) (by omega)) (fun k _ _ => ⟨hf 69 _ (by omega) (by omega), hf 70 _ (by omega) (by omega)⟩)), ⟨h3.1, by rw [hf 57 15 (by omega) (by omega)]; exact h3.2⟩, ⟨by rw [hf 57 14 (by omega) (by omega)]; exact h4.1, h4.2⟩, fun k l hk => ⟨mCr_fr (h5 k l hk).1 (hf 68 _ (by omega) (by omega)) (fun j _ _ => ⟨hf 69 _ (by omega) (by omega), hf 70 _ (by omega) (by omega)⟩), (h5 k l hk).2⟩, ?_, h7⟩
      have ap : ∀ (l0 : List Int) (k : Nat) (x : Int), (l0 ++ [v])[k]? = some x → (k < l0.length ∧ l0[k]? = some x) ∨ (k = l0.length ∧ x = v) := fun l0 k x hk => by
        by_cases e : k < l0.length
        · rw [List.getElem?_append_left e] at hk
          exact Or.inl ⟨e, hk⟩
        · have e2 := (List.getElem?_eq_some_iff.mp hk).1
          simp at e2
          have e3 : k = l0.length := by omega
          subst e3
          simp at hk
          exact Or.inr ⟨rfl, hk.symm⟩
      rcases (show w = 0 ∨ w = 1 by omega) with rfl | rfl
      · have e : l = S.2.2.2.2.1 := by rw [hl]; rfl
        subst e
        show mNames _ (if (0 : Int) = 0 then S.2.2.2.2.1 ++ [v] else S.2.2.2.2.1) (if (0 : Int) = 0 then S.2.2.2.2.2 else S.2.2.2.2.2 ++ [v])
        rw [if_pos rfl, if_pos rfl]
        refine ⟨by rw [zup_eq]; simp, by simp; omega, by rw [zup_nei (by omega), zup_ne (by omega)]; exact s3, s4, fun k x hk => ?_, fun k x hk => ?_⟩
        · rw [zup_ne (by omega)]
          rcases ap _ k x hk with ⟨z1, z2⟩ | ⟨z1, rfl⟩
          · rw [zup_nei (by omega)]; exact s5 k x z2
          · rw [zup_eqi (by omega)]; exact ⟨rfl, by omega, by omega⟩
        · rw [zup_ne (by omega), zup_nei (by omega)]; exact s6 k x hk
      · have e : l = S.2.2.2.2.2 := by rw [hl]; rfl
        subst e
        show mNames _ (if (1 : Int) = 0 then S.2.2.2.2.1 ++ [v] else S.2.2.2.2.1) (if (1 : Int) = 0 then S.2.2.2.2.2 else S.2.2.2.2.2 ++ [v])
        rw [if_neg (by decide), if_neg (by decide)]
        refine ⟨by rw [zup_nei (by omega), zup_ne (by omega)]; exact s1, s2, by rw [zup_eq]; simp, by simp; omega, fun k x hk => ?_, fun k x hk => ?_⟩
        · have hkl := (List.getElem?_eq_some_iff.mp hk).1
          rw [zup_ne (by omega), zup_nei (by omega)]; exact s5 k x hk
        · rw [zup_ne (by omega)]
          rcases ap _ k x hk with ⟨z1, z2⟩ | ⟨z1, rfl⟩
          · rw [zup_nei (by omega)]; exact s6 k x z2
          · rw [zup_eqi (by omega)]; exact ⟨rfl, by omega, by omega⟩
    · refine z_bipush h dX8_name_87 (by decide) ?_
      refine z_irI h hr dX8_name_89 ?_
      rw [if_pos (by omega)] at hg
      rw [hg]
      exact ⟨rfl, hI0, zfr_rf⟩
  have L : ∀ (n k : Nat), ((0 ≤ w ∧ w ≤ 1) ∧ (0 ≤ v ∧ v ≤ 10) ∧ ¬ (w = 1 ∧ v = 10)) → k + n = l.length → (v ≠ 10 → ∀ j : Nat, j < k → l[j]? ≠ some v) → zV Γ σ 36 [some (zr (zw Γ) 57), some (zi w), some (zi v), some (zi k)] [] := by
    intro n
    induction n with
    | zero =>
      intro k hc j1 j2
      have gw := gl hc.1
      have gw1 := gw.1
      have gw2 := gw.2.1
      refine z_iload_n h dX8_name_36 rfl ?_
      refine z_raload_n h dX8_name_37 rfl ?_
      refine z_getr h dX8_name_38 fX8_49 L57 rfl ?_
      refine z_iload_n h dX8_name_41 rfl ?_
      refine z_iald h dX8_name_42 L71 (by decide) (by omega) ?_
      rw [gw1]
      refine z_icmp_ge h dX8_name_43 (by omega) (by omega) (fun b43 => ?_) (fun b43 => by exfalso; omega)
      refine M hc (fun z => ?_) _
      obtain ⟨j, hj⟩ := List.getElem?_of_mem z.2
      have := (List.getElem?_eq_some_iff.mp hj).1
      exact j2 z.1 j (by omega) hj
    | succ n ih =>
      intro k hc j1 j2
      have gw := gl hc.1
      have gw1 := gw.1
      have gw2 := gw.2.1
      have hlt : k < l.length := by omega
      have hx := List.getElem?_eq_getElem hlt
      obtain ⟨x, hxe⟩ : ∃ x, x = l[k] := ⟨_, rfl⟩
      rw [← hxe] at hx
      have gx := gw.2.2 k x hx
      refine z_iload_n h dX8_name_36 rfl ?_
      refine z_raload_n h dX8_name_37 rfl ?_
      refine z_getr h dX8_name_38 fX8_49 L57 rfl ?_
      refine z_iload_n h dX8_name_41 rfl ?_
      refine z_iald h dX8_name_42 L71 (by decide) (by omega) ?_
      rw [gw1]
      refine z_icmp_ge h dX8_name_43 (by omega) (by omega) (fun b43 => by exfalso; omega) (fun b43 => ?_)
      refine z_iload_n h dX8_name_46 rfl ?_
      refine z_bipush h dX8_name_47 (by decide) ?_
      refine z_icmp_ge h dX8_name_49 (by omega) (by omega) (fun b49 => ?_) (fun b49 => ?_)
      · refine z_iinc h dX8_name_70 (by decide) rfl (zst1_3 rfl) ?_
        refine z_goto h dX8_name_73 ?_
        rw [show (k : Int) + 1 = ((k + 1 : Nat) : Int) by omega]
        refine ih (k + 1) hc (by omega) (fun z j hj => ?_)
        by_cases e : j = k
        · subst e
          rw [hx]
          intro y
          have := Option.some.inj y
          omega
        · exact j2 z j (by omega)
      · refine z_raload_n h dX8_name_52 rfl ?_
        refine z_getr h dX8_name_53 fX8_52 L57 rfl ?_
        refine z_bipush h dX8_name_56 (by decide) ?_
        refine z_iload_n h dX8_name_58 rfl ?_
        refine z_imul h dX8_name_59 ?_
        refine z_iload_n h dX8_name_60 rfl ?_
        refine z_iadd h dX8_name_61 ?_
        refine z_iald h dX8_name_62 L72 (by decide) (by omega) ?_
        rw [gx.1]
        refine z_iload_n h dX8_name_63 rfl ?_
        refine z_icmp_ne h dX8_name_64 (by omega) (by omega) (fun b64 => ?_) (fun b64 => ?_)
        · refine z_iinc h dX8_name_70 (by decide) rfl (zst1_3 rfl) ?_
          refine z_goto h dX8_name_73 ?_
          rw [show (k : Int) + 1 = ((k + 1 : Nat) : Int) by omega]
          refine ih (k + 1) hc (by omega) (fun z j hj => ?_)
          by_cases e : j = k
          · subst e
            rw [hx]
            intro y
            have := Option.some.inj y
            omega
          · exact j2 z j (by omega)
        · refine z_bipush h dX8_name_67 (by decide) ?_
          refine z_irI h hr dX8_name_69 ?_
          have hg := good hc
          rw [if_pos ⟨by omega, by have e : x = v := (by omega); rw [← e]; exact List.mem_of_getElem? hx⟩] at hg
          rw [hg]
          exact ⟨rfl, hI0, zfr_rf⟩
  refine z_iload_n h dX8_name_0 rfl ?_
  refine z_i2l h dX8_name_1 (by omega) ?_
  refine z_lconst (x := 0) h dX8_name_2 (by decide) ?_
  refine z_lconst (x := 1) h dX8_name_3 (by decide) ?_
  refine z_cSi3 h dX8_name_4 lX8_83 vX8_in (c_X8_in _ w (0) (1) (by unfold zlo; omega) (by unfold zlo; omega) (by unfold zlo; omega)) rfl (Nat.le_of_ble_eq_true rfl) (by decide) (fun v2 σ2 g2 => ?_)
  obtain ⟨g2, e2⟩ := g2
  rw [e2]
  refine z_if_eq h dX8_name_7 (by omega) (fun b7 => ?_) (fun b7 => ?_)
  · refine z_iconst h dX8_name_32 ?_
    refine z_irI h hr dX8_name_33 ?_
    rw [bad (by omega)]
    exact ⟨rfl, hI0, zfr_rf⟩
  · refine z_iload_n h dX8_name_10 rfl ?_
    refine z_i2l h dX8_name_11 (by omega) ?_
    refine z_lconst (x := 0) h dX8_name_12 (by decide) ?_
    refine z_iload_n h dX8_name_13 rfl ?_
    refine z_if_ne h dX8_name_14 (by omega) (fun b14 => ?_) (fun b14 => ?_)
    · refine z_ldc2 (x := 9) h dX8_name_23 kX8_110 (by decide) ?_
      refine z_cSi3 h dX8_name_26 lX8_83 vX8_in (c_X8_in _ v 0 _ (by unfold zlo; omega) (by unfold zlo; omega) (by unfold zlo; omega)) rfl (Nat.le_of_ble_eq_true rfl) (by decide) (fun v3 σ3 g3 => ?_)
      obtain ⟨g3, e3⟩ := g3
      rw [e3]
      refine z_if_ne h dX8_name_29 (by omega) (fun b29 => ?_) (fun b29 => ?_)
      · refine z_iconst h dX8_name_34 ?_
        refine z_ist1_n h dX8_name_35 (by decide) (zst1_3 rfl) ?_
        exact L l.length 0 (by omega) (by omega) (fun _ j hj => by omega)
      · refine z_iconst h dX8_name_32 ?_
        refine z_irI h hr dX8_name_33 ?_
        rw [bad (by omega)]
        exact ⟨rfl, hI0, zfr_rf⟩
    · refine z_ldc2 (x := 10) h dX8_name_17 kX8_232 (by decide) ?_
      refine z_goto h dX8_name_20 ?_
      refine z_cSi3 h dX8_name_26 lX8_83 vX8_in (c_X8_in _ v 0 _ (by unfold zlo; omega) (by unfold zlo; omega) (by unfold zlo; omega)) rfl (Nat.le_of_ble_eq_true rfl) (by decide) (fun v3 σ3 g3 => ?_)
      obtain ⟨g3, e3⟩ := g3
      rw [e3]
      refine z_if_ne h dX8_name_29 (by omega) (fun b29 => ?_) (fun b29 => ?_)
      · refine z_iconst h dX8_name_34 ?_
        refine z_ist1_n h dX8_name_35 (by decide) (zst1_3 rfl) ?_
        exact L l.length 0 (by omega) (by omega) (fun _ j hj => by omega)
      · refine z_iconst h dX8_name_32 ?_
        refine z_irI h hr dX8_name_33 ?_
        rw [bad (by omega)]
        exact ⟨rfl, hI0, zfr_rf⟩
