theorem wM_sh : ∀ k : Fin 8, (((Int32.ofInt (8 * ((k.val : Nat) : Int))).toInt64 &&& 63).toBitVec.smod 64).toNat = 8 * k.val := by decide +kernel
theorem wM_255 : ∀ i : Nat, (255#64).getLsbD i = decide (i < 8) := by
  intro i
  by_cases h : i < 64
  · have : ∀ j : Fin 64, (255#64).getLsbD j.val = decide (j.val < 8) := by decide +kernel
    exact this ⟨i, h⟩
  · rw [BitVec.getLsbD_of_ge _ _ (by omega)]
    rw [decide_eq_false (by omega)]
theorem wB_n {v : Int} {k : Nat} (hk : k < 8) : ((Int64.ofInt v >>> ((Int32.ofInt (8 * (k : Int))).toInt64 &&& 63)) &&& Int64.ofInt 255).toBitVec.toNat = (Int64.ofInt v).toBitVec.toNat / 256 ^ k % 256 := by
  show ((Int64.ofInt v).toBitVec.sshiftRight (((Int32.ofInt (8 * (k : Int))).toInt64 &&& 63).toBitVec.smod 64).toNat &&& (255#64)).toNat = _
  rw [wM_sh ⟨k, hk⟩]
  apply Nat.eq_of_testBit_eq
  intro i
  rw [BitVec.testBit_toNat, BitVec.getLsbD_and, BitVec.getLsbD_sshiftRight, wM_255, show (256 : Nat) ^ k = 2 ^ (8 * k) by rw [Nat.pow_mul]]
  rw [show ((Int64.ofInt v).toBitVec.toNat / 2 ^ (8 * k) % 256) = ((Int64.ofInt v).toBitVec.toNat / 2 ^ (8 * k) % 2 ^ 8) from rfl, Nat.testBit_mod_two_pow, Nat.testBit_div_two_pow, BitVec.testBit_toNat]
  by_cases h : i < 8
  · rw [if_pos (show 8 * k + i < 64 by omega), decide_eq_true h, decide_eq_false (show ¬ 64 ≤ i by omega)]
    simp [Nat.add_comm]
  · rw [decide_eq_false h]
    simp
theorem wB_m {v : Int} {k : Nat} (hk : k < 8) : zl2i (zland (zlshr v (8 * k)) 255) = wB v k := by
  unfold zl2i zland zlshr
  rw [Int64.ofInt_toInt, Int64.ofInt_toInt, Int64.toInt_toInt32]
  have h1 := wB_n (v := v) hk
  generalize ((Int64.ofInt v >>> ((Int32.ofInt (8 * (k : Int))).toInt64 &&& 63)) &&& Int64.ofInt 255) = y at h1
  have h2 : y.toInt = (y.toBitVec.toNat : Int).bmod 18446744073709551616 := by
    show y.toBitVec.toInt = _
    rw [BitVec.toInt_eq_toNat_bmod]
  unfold wB
  rw [h2, h1]
  generalize (Int64.ofInt v).toBitVec.toNat / 256 ^ k = u
  rw [Int.bmod_def, Int.bmod_def]
  split <;> split <;> omega
theorem c_X8_write (σ : zM) (S : zSt) (hI : mInv σ S) (n v : Int) (hn : zok n) : zCi mX8_write (fun u => [zr u 57, zi n, zl v]) σ (fun r σ' => r = (nWrite S n v).2 ∧ mInv σ' (nWrite S n v).1 ∧ zfr 57 79 σ σ') := by
  refine zCi_mk (own := RX8) rfl (by decide +kernel) (fun w => [some (zr w 57), some (zi n), some (zl v), none, none]) (fun _ => rfl) (fun _ => Nat.le_of_ble_eq_true rfl) ?_
  intro Γ h hr
  have hI0 := hI
  obtain ⟨hT, hP, h3, h4, h5, h6, h7⟩ := hI
  unfold zok at hn
  have a5 := hT.1
  have a6 := hT.2.1
  have L : ∀ (k : Nat) (σ1 : zM) (tx1 : List Int), 1 ≤ n ∧ n ≤ 8 ∧ S.1.length + n ≤ 300 → k ≤ 8 → mText σ1 tx1 → tx1 ++ wBs v k = S.1 ++ wBs v n.toNat → (∀ c i, c ≠ 58 → ¬ (c = 57 ∧ i = 0) → σ1 c i = σ c i) → zV Γ σ1 34 [some (zr (zw Γ) 57), some (zi n), some (zl v), none, some (zi ((k : Int) - 1))] [] := by
    intro k
    induction k with
    | zero =>
      intro σ1 tx1 g0 g1 g2 g3 g4
      have b5 := g2.1
      have e : tx1 = S.1 ++ wBs v n.toNat := by rw [← g3]; simp [wBs]
      have el := congrArg List.length e
      rw [List.length_append, wBs_len] at el
      refine z_iload h dX8_write_34 rfl ?_
      refine z_if_lt h dX8_write_36 (by omega) (fun b36 => ?_) (fun b36 => by exfalso; omega)
      refine z_raload_n h dX8_write_76 rfl ?_
      refine y_get 0 h dX8_write_77 fX8_87 L57 rfl rfl ?_
      refine z_irI h hr dX8_write_80 ?_
      have hb : nWrite S n v = ((S.1 ++ wBs v n.toNat, S.2), S.1.length + n) := by (unfold nWrite; rw [if_pos (by omega), if_pos (by omega)])
      rw [hb]
      refine ⟨by show σ1 57 0 = S.1.length + n; omega, ⟨e ▸ g2, mPlan_fr hP (fun c hc => g4 c _ (by omega) (by omega)) (fun c k _ _ _ => g4 c _ (by omega) (by omega)) (mCr_fr hP.2.2.1 (g4 68 _ (by omega) (by omega)) (fun k _ _ => ⟨g4 69 _ (by omega) (by omega), g4 70 _ (by omega) (by omega)⟩)), ⟨h3.1, by rw [g4 57 15 (by omega) (by omega)]; exact h3.2⟩, ⟨by rw [g4 57 14 (by omega) (by omega)]; exact h4.1, h4.2⟩, fun k l hk => ⟨mCr_fr (h5 k l hk).1 (g4 68 _ (by omega) (by omega)) (fun j _ _ => ⟨g4 69 _ (by omega) (by omega), g4 70 _ (by omega) (by omega)⟩), (h5 k l hk).2⟩, mNames_fr h6 (fun i => g4 71 i (by omega) (by omega)) (fun i => g4 72 i (by omega) (by omega)), h7⟩, fun c hc i => g4 c i (by omega) (by omega)⟩
    | succ k ih =>
      intro σ1 tx1 g0 g1 g2 g3 g4
      have b5 := g2.1
      have el := congrArg List.length g3
      rw [List.length_append, List.length_append, wBs_len, wBs_len] at el
      have ek : ((k + 1 : Nat) : Int) - 1 = k := by omega
      have br := wB_rg v k
      rw [ek]
      refine z_iload h dX8_write_34 rfl ?_
      refine z_if_lt h dX8_write_36 (by omega) (fun b36 => by exfalso; omega) (fun b36 => ?_)
      refine z_raload_n h dX8_write_39 rfl ?_
      refine z_getr h dX8_write_40 fX8_7 L57 rfl ?_
      refine z_raload_n h dX8_write_43 rfl ?_
      refine y_get 0 h dX8_write_44 fX8_87 L57 rfl rfl ?_
      refine z_lload_n h dX8_write_47 rfl ?_
      refine z_bipush h dX8_write_48 (by decide) ?_
      refine z_iload h dX8_write_50 rfl ?_
      refine z_imul h dX8_write_52 ?_
      refine z_lshr h dX8_write_53 ?_
      refine z_ldc2 (x := 255) h dX8_write_54 kX8_91 (by decide) ?_
      refine z_land h dX8_write_57 ?_
      refine z_l2i h dX8_write_58 ?_
      rw [wB_m (by omega), b5]
      refine z_iast h dX8_write_59 L58 (by decide) (by omega) ?_
      refine z_raload_n h dX8_write_60 rfl ?_
      refine z_dup h dX8_write_61 rfl ?_
      refine y_get 0 h dX8_write_62 fX8_87 L57 rfl rfl ?_
      try simp (disch := omega) only [zup_eq, zup_ne, zup_nei]
      rw [b5]
      refine z_iconst h dX8_write_65 ?_
      refine z_iadd h dX8_write_66 ?_
      refine y_put 0 h dX8_write_67 fX8_87 pX8_0 L57 rfl rfl ?_
      refine z_iinc h dX8_write_70 (by decide) rfl (zst1_4 rfl) ?_
      refine z_goto h dX8_write_73 ?_
      rw [show (k : Int) + -1 = (k : Int) - 1 by omega]
      refine ih _ (tx1 ++ [wB v k]) g0 (by omega) ⟨by rw [zup_eq]; simp, by simp; omega, fun j x hj => ?_⟩ (by rw [← g3]; simp [wBs]) (fun c i c1 c2 => ?_)
      · rw [zup_ne (by omega)]
        by_cases e : j < tx1.length
        · rw [List.getElem?_append_left e] at hj
          rw [zup_nei (by omega)]
          exact g2.2.2 j x hj
        · have e2 := (List.getElem?_eq_some_iff.mp hj).1
          simp at e2
          have e3 : j = tx1.length := by omega
          subst e3
          simp at hj
          subst hj
          rw [zup_eq]
          exact ⟨br.1, br.2, rfl⟩
      · by_cases e : c = 57
        · rw [zup_nei (fun z => c2 ⟨e, z⟩), zup_ne c1]; exact g4 c i c1 c2
        · rw [zup_ne e, zup_ne c1]; exact g4 c i c1 c2
  refine z_iload_n h dX8_write_0 rfl ?_
  refine z_i2l h dX8_write_1 (by omega) ?_
  refine z_lconst (x := 1) h dX8_write_2 (by decide) ?_
  refine z_ldc2 (x := 8) h dX8_write_3 kX8_81 (by decide) ?_
  refine z_cSi3 h dX8_write_6 lX8_83 vX8_in (c_X8_in _ n 1 8 (by unfold zlo; omega) (by unfold zlo; omega) (by unfold zlo; omega)) rfl (Nat.le_of_ble_eq_true rfl) (by decide) (fun x σ1 g1 => ?_)
  obtain ⟨g1, e1⟩ := g1
  rw [e1]
  refine z_if_ne h dX8_write_9 (by omega) (fun b9 => ?_) (fun b9 => ?_)
  · refine z_raload_n h dX8_write_14 rfl ?_
    refine y_get 0 h dX8_write_15 fX8_87 L57 rfl rfl ?_
    refine z_iload_n h dX8_write_18 rfl ?_
    refine z_iadd h dX8_write_19 ?_
    refine z_sipush h dX8_write_20 (by decide) ?_
    refine z_icmp_le h dX8_write_23 (by omega) (by omega) (fun b23 => ?_) (fun b23 => ?_)
    · refine z_iload_n h dX8_write_29 rfl ?_
      refine z_iconst h dX8_write_30 ?_
      refine z_isub h dX8_write_31 ?_
      refine z_ist1 h dX8_write_32 (by decide) (zst1_4 rfl) ?_
      rw [show n - 1 = ((n.toNat : Nat) : Int) - 1 by omega]
      exact L n.toNat σ S.1 (by omega) (by omega) hT rfl (fun _ _ _ _ => rfl)
    · refine z_bipush h dX8_write_26 (by decide) ?_
      refine z_irI h hr dX8_write_28 ?_
      have hb : nWrite S n v = (S, -3) := by (unfold nWrite; rw [if_pos (by omega), if_neg (by omega)])
      rw [hb]
      exact ⟨rfl, hI0, zfr_rf⟩
  · refine z_iconst h dX8_write_12 ?_
    refine z_irI h hr dX8_write_13 ?_
    have hb : nWrite S n v = (S, -1) := if_neg (by omega)
    rw [hb]
    exact ⟨rfl, hI0, zfr_rf⟩
