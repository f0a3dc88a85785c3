theorem hOk_no {f : Nat → Bool} {s : Nat} {r : Int} (h : hOk f s r) (hf : f s = false) : hOk f (s + 1) r := by
  rcases h with ⟨h1, h2⟩ | ⟨b, h1, h2, h3, h4⟩
  · refine Or.inl ⟨h1, fun s' hs => ?_⟩
    by_cases e : s' = s
    · rw [e]; exact hf
    · exact h2 s' (by omega)
  · refine Or.inr ⟨b, by omega, h2, h3, fun s' hs hs2 => ?_⟩
    by_cases e : s' = s
    · rw [e, hf] at hs2; cases hs2
    · exact h4 s' (by omega) hs2
theorem hOk_new {f : Nat → Bool} {s : Nat} (hf : f s = true) (h : ∀ s', s' < s → f s' = true → zon s < zon s') : hOk f (s + 1) s := by
  refine Or.inr ⟨s, by omega, rfl, hf, fun s' hs hs2 => ?_⟩
  by_cases e : s' = s
  · rw [e]; exact Or.inr ⟨rfl, Nat.le_refl _⟩
  · exact Or.inl (h s' (by omega) hs2)
theorem hOk_old {f : Nat → Bool} {s b : Nat} (hb : b < s) (hf : f b = true) (h : ∀ s', s' < s → f s' = true → zon b < zon s' ∨ (zon b = zon s' ∧ b ≤ s')) (hz : zon b ≤ zon s) : hOk f (s + 1) b := by
  refine Or.inr ⟨b, by omega, rfl, hf, fun s' hs hs2 => ?_⟩
  by_cases e : s' = s
  · rw [e]; omega
  · exact h s' (by omega) hs2
theorem c_X8_hush (σ : zM) (S : zSt) (hI : mInv σ S) (i m : Int) (hi : zok i) (hm : zok m) : zCi mX8_hush (fun u => [zr u 57, zi i, zi m]) σ (fun r σ' => aHush S i m r ∧ mInv σ' S ∧ zfr 57 79 σ σ') := by
  refine zCi_mk (own := RX8) rfl (by decide +kernel) (fun w => [some (zr w 57), some (zi i), some (zi m), none, none, none]) (fun _ => rfl) (fun _ => Nat.le_of_ble_eq_true rfl) ?_
  intro Γ h hr
  have hI0 := hI
  obtain ⟨hT, hP, h3, h4, h5, h6, h7⟩ := hI
  have np10 := hP.2.2.2.2.1
  have q3 := hP.2.2.1
  have c1 := q3.1
  have c2 := q3.2.1
  unfold zok at hm
  have pl := pL_ok hP.2.2.2.2
  have hpw : 2 ^ S.2.1.2.1.length ≤ 2 ^ 8 := Nat.pow_le_pow_right (by decide) c2
  have hs : zshl 1 (S.2.1.2.1.length : Int) = ((2 ^ S.2.1.2.1.length : Nat) : Int) := by rw [zshl_1 (by omega)]; simp
  obtain ⟨N, hN⟩ : ∃ N, N = 2 ^ S.2.1.2.1.length := ⟨_, rfl⟩
  rw [← hN] at hs hpw
  have hpw : N ≤ 256 := hpw
  have L : ∀ (n s : Nat) (σ1 : zM) (best : Int) (l5 : Option Value), s + n = N → (0 ≤ i ∧ i < S.2.1.1.length) ∧ 0 ≤ m ∧ m < 200 → mGo σ σ1 → (σ1 57 21 = -4 ∧ σ1 57 23 = -4 ∧ σ1 57 25 = pL S.2.1 ∧ σ1 57 26 = -4) → hOk (zSv S.2.1 i m.toNat) s best → zV Γ σ1 32 [some (zr (zw Γ) 57), some (zi i), some (zi m), some (zi best), some (zi s), l5] [] := by
    intro n
    induction n with
    | zero =>
      intro s σ1 best l5 j1 j2 j3 j4 j5
      have q := (mPlan_go hP j3).2.2.1.1
      refine z_iload h dX8_hush_32 rfl ?_
      refine z_iconst h dX8_hush_34 ?_
      refine z_raload_n h dX8_hush_35 rfl ?_
      refine z_getr h dX8_hush_36 fX8_40 L57 rfl ?_
      refine z_iconst h dX8_hush_39 ?_
      refine z_iald h dX8_hush_40 L68 (by decide) (by omega) ?_
      rw [q]
      refine z_ishl h dX8_hush_41 ?_
      rw [hs]
      refine z_icmp_ge h dX8_hush_42 (by omega) (by omega) (fun b42 => ?_) (fun b42 => by exfalso; omega)
      refine z_iload_n h dX8_hush_124 rfl ?_
      refine z_irI h hr dX8_hush_125 ?_
      refine ⟨⟨fun _ => ?_, fun z => absurd j2 z⟩, mInv_go hI0 j3, mGo_fr j3⟩
      rw [← hN, ← j1]
      exact j5
    | succ n ih =>
      intro s σ1 best l5 j1 j2 j3 j4 j5
      have q := (mPlan_go hP j3).2.2.1.1
      have hb := zhush_b s
      have j5' := j5
      rcases j5 with ⟨rfl, j6⟩ | ⟨b, j6, rfl, j7, j8⟩

      · refine z_iload h dX8_hush_32 rfl ?_
        refine z_iconst h dX8_hush_34 ?_
        refine z_raload_n h dX8_hush_35 rfl ?_
        refine z_getr h dX8_hush_36 fX8_40 L57 rfl ?_
        refine z_iconst h dX8_hush_39 ?_
        refine z_iald h dX8_hush_40 L68 (by decide) (by omega) ?_
        rw [q]
        refine z_ishl h dX8_hush_41 ?_
        rw [hs]
        refine z_icmp_ge h dX8_hush_42 (by omega) (by omega) (fun b42 => by exfalso; omega) (fun b42 => ?_)
        refine z_raload_n h dX8_hush_45 rfl ?_
        refine z_sipush h dX8_hush_46 (by decide) ?_
        refine z_iload h dX8_hush_49 rfl ?_
        refine z_iconst h dX8_hush_51 ?_
        refine z_ixor h dX8_hush_52 ?_
        refine z_iand h dX8_hush_53 ?_
        rw [zhush (by omega)]
        refine y_put 20 h dX8_hush_54 fX8_130 pX8_20 L57 rfl rfl ?_
        refine z_raload_n h dX8_hush_57 rfl ?_
        refine z_sipush h dX8_hush_58 (by decide) ?_
        refine z_cVv1 h dX8_hush_61 lX8_193 vX8_go rfl L57 (c_X8_go (zup σ1 57 20 ((255 &&& (s ^^^ 4294967295) : Nat) : Int)) S.2.1 (mPlan_go hP (mGo_up j3 (by omega))) (pL S.2.1, s, [], -1) (mMd_0 ⟨by rw [zup_nei (by omega)]; exact j4.2.2.1, pl⟩ ⟨zup_eq _ _ _ _, hb.1⟩ hb.2 (Or.inl ⟨rfl, by rw [zup_nei (by omega)]; exact j4.2.2.2⟩) (by rw [zup_nei (by omega)]; exact j4.1) (by rw [zup_nei (by omega)]; exact j4.2.1)) 199 (by omega)) rfl (Nat.le_of_ble_eq_true rfl) (by decide) (fun σ2 k1 => ?_)
        have k2 := mGo_tr (mGo_up (i := 20) (v := ((255 &&& (s ^^^ 4294967295) : Nat) : Int)) j3 (by omega)) (mGo_kp k1.1)
        have k3 : ∀ q : Int, q ≠ 28 → q ≠ 31 → q ≠ 20 → σ2 57 q = σ1 57 q := fun q a b c => by rw [k1.1.2 q a b, zup_nei c]
        have k4 := k1.2.2.1 i (by omega) (by omega)
        have k5 := zSv_by S.2.1 s i m.toNat (by omega)
        have k5 : zSv S.2.1 i m.toNat s = true ↔ ((sRun S.2.1 (pL S.2.1, s, [], -1) (199 + 1)).2.1 i = 0 ∧ (sRun S.2.1 (pL S.2.1, s, [], -1) (199 + 1)).2.2.1 i ≤ m.toNat) := k5
        rw [← k4.1.1, ← k4.1.2] at k5
        have k6 : ¬ (σ2 75 i = 0 ∧ σ2 76 i ≤ m.toNat) → zSv S.2.1 i m.toNat s = false := fun z => by
          cases hh : zSv S.2.1 i m.toNat s
          · rfl
          · exact absurd (k5.mp hh) z
        have k11 : σ2 57 21 = -4 ∧ σ2 57 23 = -4 ∧ σ2 57 25 = pL S.2.1 ∧ σ2 57 26 = -4 := by
          rw [k3 21 (by omega) (by omega) (by omega), k3 23 (by omega) (by omega) (by omega), k3 25 (by omega) (by omega) (by omega), k3 26 (by omega) (by omega) (by omega)]
          exact j4
        refine z_raload_n h dX8_hush_64 rfl ?_
        refine z_getr h dX8_hush_65 fX8_61 L57 rfl ?_
        refine z_iload_n h dX8_hush_68 rfl ?_
        refine z_iald h dX8_hush_69 L75 (by decide) (by omega) ?_
        refine z_if_ne h dX8_hush_70 (by omega) (fun b70 => ?_) (fun b70 => ?_)
        · refine z_iconst h dX8_hush_87 ?_
          refine z_ist1 h dX8_hush_88 (by decide) (zst1_5 rfl) ?_
          refine z_iload h dX8_hush_90 rfl ?_
          refine z_if_eq h dX8_hush_92 (by omega) (fun b92 => ?_) (fun b92 => ?_)
          · refine z_iload_n h dX8_hush_116 rfl ?_
            refine z_ist1_n h dX8_hush_117 (by decide) (zst1_3 rfl) ?_
            refine z_iinc h dX8_hush_118 (by decide) rfl (zst1_4 rfl) ?_
            refine z_goto h dX8_hush_121 ?_
            rw [show (s : Int) + 1 = ((s + 1 : Nat) : Int) by omega]
            first
              | exact ih (s + 1) σ2 _ _ (by omega) j2 k2 k11 (hOk_no j5' (k6 (by omega)))
              | exact ih (s + 1) σ2 _ _ (by omega) j2 k2 k11 (hOk_new (k5.mpr (by omega)) (fun s' a b => by rw [j6 s' a] at b; cases b))
              | (exfalso; omega)
          · refine z_iload_n h dX8_hush_95 rfl ?_
            refine z_if_lt h dX8_hush_96 (by omega) (fun b96 => ?_) (fun b96 => by exfalso; omega)
            refine z_iload h dX8_hush_111 rfl ?_
            refine z_goto h dX8_hush_113 ?_
            refine z_ist1_n h dX8_hush_117 (by decide) (zst1_3 rfl) ?_
            refine z_iinc h dX8_hush_118 (by decide) rfl (zst1_4 rfl) ?_
            refine z_goto h dX8_hush_121 ?_
            rw [show (s : Int) + 1 = ((s + 1 : Nat) : Int) by omega]
            first
              | exact ih (s + 1) σ2 _ _ (by omega) j2 k2 k11 (hOk_no j5' (k6 (by omega)))
              | exact ih (s + 1) σ2 _ _ (by omega) j2 k2 k11 (hOk_new (k5.mpr (by omega)) (fun s' a b => by rw [j6 s' a] at b; cases b))
              | (exfalso; omega)
        · refine z_raload_n h dX8_hush_73 rfl ?_
          refine z_getr h dX8_hush_74 fX8_64 L57 rfl ?_
          refine z_iload_n h dX8_hush_77 rfl ?_
          refine z_iald h dX8_hush_78 L76 (by decide) (by omega) ?_
          refine z_iload_n h dX8_hush_79 rfl ?_
          refine z_icmp_gt h dX8_hush_80 (by omega) (by omega) (fun b80 => ?_) (fun b80 => ?_)
          · refine z_iconst h dX8_hush_87 ?_
            refine z_ist1 h dX8_hush_88 (by decide) (zst1_5 rfl) ?_
            refine z_iload h dX8_hush_90 rfl ?_
            refine z_if_eq h dX8_hush_92 (by omega) (fun b92 => ?_) (fun b92 => ?_)
            · refine z_iload_n h dX8_hush_116 rfl ?_
              refine z_ist1_n h dX8_hush_117 (by decide) (zst1_3 rfl) ?_
              refine z_iinc h dX8_hush_118 (by decide) rfl (zst1_4 rfl) ?_
              refine z_goto h dX8_hush_121 ?_
              rw [show (s : Int) + 1 = ((s + 1 : Nat) : Int) by omega]
              first
                | exact ih (s + 1) σ2 _ _ (by omega) j2 k2 k11 (hOk_no j5' (k6 (by omega)))
                | exact ih (s + 1) σ2 _ _ (by omega) j2 k2 k11 (hOk_new (k5.mpr (by omega)) (fun s' a b => by rw [j6 s' a] at b; cases b))
                | (exfalso; omega)
            · refine z_iload_n h dX8_hush_95 rfl ?_
              refine z_if_lt h dX8_hush_96 (by omega) (fun b96 => ?_) (fun b96 => by exfalso; omega)
              refine z_iload h dX8_hush_111 rfl ?_
              refine z_goto h dX8_hush_113 ?_
              refine z_ist1_n h dX8_hush_117 (by decide) (zst1_3 rfl) ?_
              refine z_iinc h dX8_hush_118 (by decide) rfl (zst1_4 rfl) ?_
              refine z_goto h dX8_hush_121 ?_
              rw [show (s : Int) + 1 = ((s + 1 : Nat) : Int) by omega]
              first
                | exact ih (s + 1) σ2 _ _ (by omega) j2 k2 k11 (hOk_no j5' (k6 (by omega)))
                | exact ih (s + 1) σ2 _ _ (by omega) j2 k2 k11 (hOk_new (k5.mpr (by omega)) (fun s' a b => by rw [j6 s' a] at b; cases b))
                | (exfalso; omega)
          · refine z_iconst h dX8_hush_83 ?_
            refine z_goto h dX8_hush_84 ?_
            refine z_ist1 h dX8_hush_88 (by decide) (zst1_5 rfl) ?_
            refine z_iload h dX8_hush_90 rfl ?_
            refine z_if_eq h dX8_hush_92 (by omega) (fun b92 => ?_) (fun b92 => ?_)
            · refine z_iload_n h dX8_hush_116 rfl ?_
              refine z_ist1_n h dX8_hush_117 (by decide) (zst1_3 rfl) ?_
              refine z_iinc h dX8_hush_118 (by decide) rfl (zst1_4 rfl) ?_
              refine z_goto h dX8_hush_121 ?_
              rw [show (s : Int) + 1 = ((s + 1 : Nat) : Int) by omega]
              first
                | exact ih (s + 1) σ2 _ _ (by omega) j2 k2 k11 (hOk_no j5' (k6 (by omega)))
                | exact ih (s + 1) σ2 _ _ (by omega) j2 k2 k11 (hOk_new (k5.mpr (by omega)) (fun s' a b => by rw [j6 s' a] at b; cases b))
                | (exfalso; omega)
            · refine z_iload_n h dX8_hush_95 rfl ?_
              refine z_if_lt h dX8_hush_96 (by omega) (fun b96 => ?_) (fun b96 => by exfalso; omega)
              refine z_iload h dX8_hush_111 rfl ?_
              refine z_goto h dX8_hush_113 ?_
              refine z_ist1_n h dX8_hush_117 (by decide) (zst1_3 rfl) ?_
              refine z_iinc h dX8_hush_118 (by decide) rfl (zst1_4 rfl) ?_
              refine z_goto h dX8_hush_121 ?_
              rw [show (s : Int) + 1 = ((s + 1 : Nat) : Int) by omega]
              first
                | exact ih (s + 1) σ2 _ _ (by omega) j2 k2 k11 (hOk_no j5' (k6 (by omega)))
                | exact ih (s + 1) σ2 _ _ (by omega) j2 k2 k11 (hOk_new (k5.mpr (by omega)) (fun s' a b => by rw [j6 s' a] at b; cases b))
                | (exfalso; omega)
      · refine z_iload h dX8_hush_32 rfl ?_
        refine z_iconst h dX8_hush_34 ?_
        refine z_raload_n h dX8_hush_35 rfl ?_
        refine z_getr h dX8_hush_36 fX8_40 L57 rfl ?_
        refine z_iconst h dX8_hush_39 ?_
        refine z_iald h dX8_hush_40 L68 (by decide) (by omega) ?_
        rw [q]
        refine z_ishl h dX8_hush_41 ?_
        rw [hs]
        refine z_icmp_ge h dX8_hush_42 (by omega) (by omega) (fun b42 => by exfalso; omega) (fun b42 => ?_)
        refine z_raload_n h dX8_hush_45 rfl ?_
        refine z_sipush h dX8_hush_46 (by decide) ?_
        refine z_iload h dX8_hush_49 rfl ?_
        refine z_iconst h dX8_hush_51 ?_
        refine z_ixor h dX8_hush_52 ?_
        refine z_iand h dX8_hush_53 ?_
        rw [zhush (by omega)]
        refine y_put 20 h dX8_hush_54 fX8_130 pX8_20 L57 rfl rfl ?_
        refine z_raload_n h dX8_hush_57 rfl ?_
        refine z_sipush h dX8_hush_58 (by decide) ?_
        refine z_cVv1 h dX8_hush_61 lX8_193 vX8_go rfl L57 (c_X8_go (zup σ1 57 20 ((255 &&& (s ^^^ 4294967295) : Nat) : Int)) S.2.1 (mPlan_go hP (mGo_up j3 (by omega))) (pL S.2.1, s, [], -1) (mMd_0 ⟨by rw [zup_nei (by omega)]; exact j4.2.2.1, pl⟩ ⟨zup_eq _ _ _ _, hb.1⟩ hb.2 (Or.inl ⟨rfl, by rw [zup_nei (by omega)]; exact j4.2.2.2⟩) (by rw [zup_nei (by omega)]; exact j4.1) (by rw [zup_nei (by omega)]; exact j4.2.1)) 199 (by omega)) rfl (Nat.le_of_ble_eq_true rfl) (by decide) (fun σ2 k1 => ?_)
        have k2 := mGo_tr (mGo_up (i := 20) (v := ((255 &&& (s ^^^ 4294967295) : Nat) : Int)) j3 (by omega)) (mGo_kp k1.1)
        have k3 : ∀ q : Int, q ≠ 28 → q ≠ 31 → q ≠ 20 → σ2 57 q = σ1 57 q := fun q a b c => by rw [k1.1.2 q a b, zup_nei c]
        have k4 := k1.2.2.1 i (by omega) (by omega)
        have k5 := zSv_by S.2.1 s i m.toNat (by omega)
        have k5 : zSv S.2.1 i m.toNat s = true ↔ ((sRun S.2.1 (pL S.2.1, s, [], -1) (199 + 1)).2.1 i = 0 ∧ (sRun S.2.1 (pL S.2.1, s, [], -1) (199 + 1)).2.2.1 i ≤ m.toNat) := k5
        rw [← k4.1.1, ← k4.1.2] at k5
        have k6 : ¬ (σ2 75 i = 0 ∧ σ2 76 i ≤ m.toNat) → zSv S.2.1 i m.toNat s = false := fun z => by
          cases hh : zSv S.2.1 i m.toNat s
          · rfl
          · exact absurd (k5.mp hh) z
        have k11 : σ2 57 21 = -4 ∧ σ2 57 23 = -4 ∧ σ2 57 25 = pL S.2.1 ∧ σ2 57 26 = -4 := by
          rw [k3 21 (by omega) (by omega) (by omega), k3 23 (by omega) (by omega) (by omega), k3 25 (by omega) (by omega) (by omega), k3 26 (by omega) (by omega) (by omega)]
          exact j4
        refine z_raload_n h dX8_hush_64 rfl ?_
        refine z_getr h dX8_hush_65 fX8_61 L57 rfl ?_
        refine z_iload_n h dX8_hush_68 rfl ?_
        refine z_iald h dX8_hush_69 L75 (by decide) (by omega) ?_
        refine z_if_ne h dX8_hush_70 (by omega) (fun b70 => ?_) (fun b70 => ?_)
        · refine z_iconst h dX8_hush_87 ?_
          refine z_ist1 h dX8_hush_88 (by decide) (zst1_5 rfl) ?_
          refine z_iload h dX8_hush_90 rfl ?_
          refine z_if_eq h dX8_hush_92 (by omega) (fun b92 => ?_) (fun b92 => ?_)
          · refine z_iload_n h dX8_hush_116 rfl ?_
            refine z_ist1_n h dX8_hush_117 (by decide) (zst1_3 rfl) ?_
            refine z_iinc h dX8_hush_118 (by decide) rfl (zst1_4 rfl) ?_
            refine z_goto h dX8_hush_121 ?_
            rw [show (s : Int) + 1 = ((s + 1 : Nat) : Int) by omega]
            first
              | exact ih (s + 1) σ2 _ _ (by omega) j2 k2 k11 (hOk_no j5' (k6 (by omega)))
              | exact ih (s + 1) σ2 _ _ (by omega) j2 k2 k11 (hOk_new (k5.mpr (by omega)) (fun s' a c => by have := j8 s' a c; omega))
              | exact ih (s + 1) σ2 _ _ (by omega) j2 k2 k11 (hOk_old j6 j7 j8 (by omega))
              | (exfalso; omega)
          · refine z_iload_n h dX8_hush_95 rfl ?_
            refine z_if_lt h dX8_hush_96 (by omega) (fun b96 => by exfalso; omega) (fun b96 => ?_)
            refine z_iload h dX8_hush_99 rfl ?_
            refine z_cSi1 h dX8_hush_101 lX8_222 vX8_ones (c_X8_ones σ2 s (by omega)) rfl (Nat.le_of_ble_eq_true rfl) (by decide) (fun v1 σ3 k7 => ?_)
            obtain ⟨k7, e7⟩ := k7
            rw [e7]
            have z1 := zon_le s
            refine z_iload_n h dX8_hush_104 rfl ?_
            refine z_cSi1 h dX8_hush_105 lX8_222 vX8_ones (c_X8_ones σ2 b (by omega)) rfl (Nat.le_of_ble_eq_true rfl) (by decide) (fun v2 σ4 k8 => ?_)
            obtain ⟨k8, e8⟩ := k8
            rw [e8]
            have z2 := zon_le b
            refine z_icmp_ge h dX8_hush_108 (by omega) (by omega) (fun b108 => ?_) (fun b108 => ?_)
            · refine z_iload_n h dX8_hush_116 rfl ?_
              refine z_ist1_n h dX8_hush_117 (by decide) (zst1_3 rfl) ?_
              refine z_iinc h dX8_hush_118 (by decide) rfl (zst1_4 rfl) ?_
              refine z_goto h dX8_hush_121 ?_
              rw [show (s : Int) + 1 = ((s + 1 : Nat) : Int) by omega]
              first
                | exact ih (s + 1) σ2 _ _ (by omega) j2 k2 k11 (hOk_no j5' (k6 (by omega)))
                | exact ih (s + 1) σ2 _ _ (by omega) j2 k2 k11 (hOk_new (k5.mpr (by omega)) (fun s' a c => by have := j8 s' a c; omega))
                | exact ih (s + 1) σ2 _ _ (by omega) j2 k2 k11 (hOk_old j6 j7 j8 (by omega))
                | (exfalso; omega)
            · refine z_iload h dX8_hush_111 rfl ?_
              refine z_goto h dX8_hush_113 ?_
              refine z_ist1_n h dX8_hush_117 (by decide) (zst1_3 rfl) ?_
              refine z_iinc h dX8_hush_118 (by decide) rfl (zst1_4 rfl) ?_
              refine z_goto h dX8_hush_121 ?_
              rw [show (s : Int) + 1 = ((s + 1 : Nat) : Int) by omega]
              first
                | exact ih (s + 1) σ2 _ _ (by omega) j2 k2 k11 (hOk_no j5' (k6 (by omega)))
                | exact ih (s + 1) σ2 _ _ (by omega) j2 k2 k11 (hOk_new (k5.mpr (by omega)) (fun s' a c => by have := j8 s' a c; omega))
                | exact ih (s + 1) σ2 _ _ (by omega) j2 k2 k11 (hOk_old j6 j7 j8 (by omega))
                | (exfalso; omega)
        · refine z_raload_n h dX8_hush_73 rfl ?_
          refine z_getr h dX8_hush_74 fX8_64 L57 rfl ?_
          refine z_iload_n h dX8_hush_77 rfl ?_
          refine z_iald h dX8_hush_78 L76 (by decide) (by omega) ?_
          refine z_iload_n h dX8_hush_79 rfl ?_
          refine z_icmp_gt h dX8_hush_80 (by omega) (by omega) (fun b80 => ?_) (fun b80 => ?_)
          · refine z_iconst h dX8_hush_87 ?_
            refine z_ist1 h dX8_hush_88 (by decide) (zst1_5 rfl) ?_
            refine z_iload h dX8_hush_90 rfl ?_
            refine z_if_eq h dX8_hush_92 (by omega) (fun b92 => ?_) (fun b92 => ?_)
            · refine z_iload_n h dX8_hush_116 rfl ?_
              refine z_ist1_n h dX8_hush_117 (by decide) (zst1_3 rfl) ?_
              refine z_iinc h dX8_hush_118 (by decide) rfl (zst1_4 rfl) ?_
              refine z_goto h dX8_hush_121 ?_
              rw [show (s : Int) + 1 = ((s + 1 : Nat) : Int) by omega]
              first
                | exact ih (s + 1) σ2 _ _ (by omega) j2 k2 k11 (hOk_no j5' (k6 (by omega)))
                | exact ih (s + 1) σ2 _ _ (by omega) j2 k2 k11 (hOk_new (k5.mpr (by omega)) (fun s' a c => by have := j8 s' a c; omega))
                | exact ih (s + 1) σ2 _ _ (by omega) j2 k2 k11 (hOk_old j6 j7 j8 (by omega))
                | (exfalso; omega)
            · refine z_iload_n h dX8_hush_95 rfl ?_
              refine z_if_lt h dX8_hush_96 (by omega) (fun b96 => by exfalso; omega) (fun b96 => ?_)
              refine z_iload h dX8_hush_99 rfl ?_
              refine z_cSi1 h dX8_hush_101 lX8_222 vX8_ones (c_X8_ones σ2 s (by omega)) rfl (Nat.le_of_ble_eq_true rfl) (by decide) (fun v1 σ3 k7 => ?_)
              obtain ⟨k7, e7⟩ := k7
              rw [e7]
              have z1 := zon_le s
              refine z_iload_n h dX8_hush_104 rfl ?_
              refine z_cSi1 h dX8_hush_105 lX8_222 vX8_ones (c_X8_ones σ2 b (by omega)) rfl (Nat.le_of_ble_eq_true rfl) (by decide) (fun v2 σ4 k8 => ?_)
              obtain ⟨k8, e8⟩ := k8
              rw [e8]
              have z2 := zon_le b
              refine z_icmp_ge h dX8_hush_108 (by omega) (by omega) (fun b108 => ?_) (fun b108 => ?_)
              · refine z_iload_n h dX8_hush_116 rfl ?_
                refine z_ist1_n h dX8_hush_117 (by decide) (zst1_3 rfl) ?_
                refine z_iinc h dX8_hush_118 (by decide) rfl (zst1_4 rfl) ?_
                refine z_goto h dX8_hush_121 ?_
                rw [show (s : Int) + 1 = ((s + 1 : Nat) : Int) by omega]
                first
                  | exact ih (s + 1) σ2 _ _ (by omega) j2 k2 k11 (hOk_no j5' (k6 (by omega)))
                  | exact ih (s + 1) σ2 _ _ (by omega) j2 k2 k11 (hOk_new (k5.mpr (by omega)) (fun s' a c => by have := j8 s' a c; omega))
                  | exact ih (s + 1) σ2 _ _ (by omega) j2 k2 k11 (hOk_old j6 j7 j8 (by omega))
                  | (exfalso; omega)
              · refine z_iload h dX8_hush_111 rfl ?_
                refine z_goto h dX8_hush_113 ?_
                refine z_ist1_n h dX8_hush_117 (by decide) (zst1_3 rfl) ?_
                refine z_iinc h dX8_hush_118 (by decide) rfl (zst1_4 rfl) ?_
                refine z_goto h dX8_hush_121 ?_
                rw [show (s : Int) + 1 = ((s + 1 : Nat) : Int) by omega]
                first
                  | exact ih (s + 1) σ2 _ _ (by omega) j2 k2 k11 (hOk_no j5' (k6 (by omega)))
                  | exact ih (s + 1) σ2 _ _ (by omega) j2 k2 k11 (hOk_new (k5.mpr (by omega)) (fun s' a c => by have := j8 s' a c; omega))
                  | exact ih (s + 1) σ2 _ _ (by omega) j2 k2 k11 (hOk_old j6 j7 j8 (by omega))
                  | (exfalso; omega)
          · refine z_iconst h dX8_hush_83 ?_
            refine z_goto h dX8_hush_84 ?_
            refine z_ist1 h dX8_hush_88 (by decide) (zst1_5 rfl) ?_
            refine z_iload h dX8_hush_90 rfl ?_
            refine z_if_eq h dX8_hush_92 (by omega) (fun b92 => ?_) (fun b92 => ?_)
            · refine z_iload_n h dX8_hush_116 rfl ?_
              refine z_ist1_n h dX8_hush_117 (by decide) (zst1_3 rfl) ?_
              refine z_iinc h dX8_hush_118 (by decide) rfl (zst1_4 rfl) ?_
              refine z_goto h dX8_hush_121 ?_
              rw [show (s : Int) + 1 = ((s + 1 : Nat) : Int) by omega]
              first
                | exact ih (s + 1) σ2 _ _ (by omega) j2 k2 k11 (hOk_no j5' (k6 (by omega)))
                | exact ih (s + 1) σ2 _ _ (by omega) j2 k2 k11 (hOk_new (k5.mpr (by omega)) (fun s' a c => by have := j8 s' a c; omega))
                | exact ih (s + 1) σ2 _ _ (by omega) j2 k2 k11 (hOk_old j6 j7 j8 (by omega))
                | (exfalso; omega)
            · refine z_iload_n h dX8_hush_95 rfl ?_
              refine z_if_lt h dX8_hush_96 (by omega) (fun b96 => by exfalso; omega) (fun b96 => ?_)
              refine z_iload h dX8_hush_99 rfl ?_
              refine z_cSi1 h dX8_hush_101 lX8_222 vX8_ones (c_X8_ones σ2 s (by omega)) rfl (Nat.le_of_ble_eq_true rfl) (by decide) (fun v1 σ3 k7 => ?_)
              obtain ⟨k7, e7⟩ := k7
              rw [e7]
              have z1 := zon_le s
              refine z_iload_n h dX8_hush_104 rfl ?_
              refine z_cSi1 h dX8_hush_105 lX8_222 vX8_ones (c_X8_ones σ2 b (by omega)) rfl (Nat.le_of_ble_eq_true rfl) (by decide) (fun v2 σ4 k8 => ?_)
              obtain ⟨k8, e8⟩ := k8
              rw [e8]
              have z2 := zon_le b
              refine z_icmp_ge h dX8_hush_108 (by omega) (by omega) (fun b108 => ?_) (fun b108 => ?_)
              · refine z_iload_n h dX8_hush_116 rfl ?_
                refine z_ist1_n h dX8_hush_117 (by decide) (zst1_3 rfl) ?_
                refine z_iinc h dX8_hush_118 (by decide) rfl (zst1_4 rfl) ?_
                refine z_goto h dX8_hush_121 ?_
                rw [show (s : Int) + 1 = ((s + 1 : Nat) : Int) by omega]
                first
                  | exact ih (s + 1) σ2 _ _ (by omega) j2 k2 k11 (hOk_no j5' (k6 (by omega)))
                  | exact ih (s + 1) σ2 _ _ (by omega) j2 k2 k11 (hOk_new (k5.mpr (by omega)) (fun s' a c => by have := j8 s' a c; omega))
                  | exact ih (s + 1) σ2 _ _ (by omega) j2 k2 k11 (hOk_old j6 j7 j8 (by omega))
                  | (exfalso; omega)
              · refine z_iload h dX8_hush_111 rfl ?_
                refine z_goto h dX8_hush_113 ?_
                refine z_ist1_n h dX8_hush_117 (by decide) (zst1_3 rfl) ?_
                refine z_iinc h dX8_hush_118 (by decide) rfl (zst1_4 rfl) ?_
                refine z_goto h dX8_hush_121 ?_
                rw [show (s : Int) + 1 = ((s + 1 : Nat) : Int) by omega]
                first
                  | exact ih (s + 1) σ2 _ _ (by omega) j2 k2 k11 (hOk_no j5' (k6 (by omega)))
                  | exact ih (s + 1) σ2 _ _ (by omega) j2 k2 k11 (hOk_new (k5.mpr (by omega)) (fun s' a c => by have := j8 s' a c; omega))
                  | exact ih (s + 1) σ2 _ _ (by omega) j2 k2 k11 (hOk_old j6 j7 j8 (by omega))
                  | (exfalso; omega)
  refine z_raload_n h dX8_hush_0 rfl ?_
  refine z_iload_n h dX8_hush_1 rfl ?_
  refine z_cVi1 h dX8_hush_2 lX8_196 vX8_isPerson rfl L57 (c_X8_isPerson σ S.2.1 hP i hi) rfl (Nat.le_of_ble_eq_true rfl) (by decide) (fun v σ1 g1 => ?_)
  obtain ⟨g1, e1⟩ := g1
  rw [e1]
  refine z_if_eq h dX8_hush_5 (by omega) (fun b5 => ?_) (fun b5 => ?_)
  · refine z_iconst h dX8_hush_20 ?_
    refine z_irI h hr dX8_hush_21 ?_
    exact ⟨⟨fun z => by omega, fun _ => rfl⟩, hI0, zfr_rf⟩
  · refine z_iload_n h dX8_hush_8 rfl ?_
    refine z_i2l h dX8_hush_9 (by omega) ?_
    refine z_lconst (x := 0) h dX8_hush_10 (by decide) ?_
    refine z_ldc2 (x := 199) h dX8_hush_11 kX8_204 (by decide) ?_
    refine z_cSi3 h dX8_hush_14 lX8_83 vX8_in (c_X8_in _ m (0) (199) (by unfold zlo; omega) (by unfold zlo; omega) (by unfold zlo; omega)) rfl (Nat.le_of_ble_eq_true rfl) (by decide) (fun v2 σ2 g2 => ?_)
    obtain ⟨g2, e2⟩ := g2
    rw [e2]
    refine z_if_ne h dX8_hush_17 (by omega) (fun b17 => ?_) (fun b17 => ?_)
    · refine z_raload_n h dX8_hush_22 rfl ?_
      refine z_cVv0 h dX8_hush_23 lX8_190 vX8_asItIs rfl L57 (c_X8_asItIs σ S.2.1 hP) rfl (Nat.le_of_ble_eq_true rfl) (by decide) (fun σ3 g3 => ?_)
      refine z_bipush h dX8_hush_26 (by decide) ?_
      refine z_ist1_n h dX8_hush_28 (by decide) (zst1_3 rfl) ?_
      refine z_iconst h dX8_hush_29 ?_
      refine z_ist1 h dX8_hush_30 (by decide) (zst1_4 rfl) ?_
      exact L N 0 σ3 (-4) none (by omega) (by omega) g3.1 ⟨g3.2.2.1, g3.2.2.2.1, g3.2.2.2.2.1, g3.2.2.2.2.2⟩ (Or.inl ⟨rfl, fun s' z => by omega⟩)
    · refine z_iconst h dX8_hush_20 ?_
      refine z_irI h hr dX8_hush_21 ?_
      exact ⟨⟨fun z => by omega, fun _ => rfl⟩, hI0, zfr_rf⟩
