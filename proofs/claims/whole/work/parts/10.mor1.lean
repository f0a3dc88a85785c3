theorem c_X1_end (σ : zM) (i as t : Int) (hi : 0 ≤ i ∧ i < 10) : zCv mX1_end (fun w => [zr w 5, zi i, zi as, zi t]) σ (fun σ' => σ' = zup (zup (zup (zup σ 6 i as) 7 i t) 8 i 0) 5 12 (σ 5 12 + 1)) := by
  refine zCv_mk (own := RX1) rfl (by decide +kernel) (fun w => [some (zr w 5), some (zi i), some (zi as), some (zi t)]) (fun _ => rfl) (fun _ => Nat.le_of_ble_eq_true rfl) ?_
  intro Γ h hr
  refine z_raload_n h dX1_end_0 rfl ?_
  refine z_getr h dX1_end_1 fX1_9 L5 rfl ?_
  refine z_iload_n h dX1_end_4 rfl ?_
  refine z_iload_n h dX1_end_5 rfl ?_
  refine z_iast h dX1_end_6 L6 (by decide) (by omega) ?_
  refine z_raload_n h dX1_end_7 rfl ?_
  refine z_getr h dX1_end_8 fX1_15 L5 rfl ?_
  refine z_iload_n h dX1_end_11 rfl ?_
  refine z_iload_n h dX1_end_12 rfl ?_
  refine z_iast h dX1_end_13 L7 (by decide) (by omega) ?_
  refine z_raload_n h dX1_end_14 rfl ?_
  refine z_getr h dX1_end_15 fX1_18 L5 rfl ?_
  refine z_iload_n h dX1_end_18 rfl ?_
  refine z_iconst h dX1_end_19 ?_
  refine z_zast h dX1_end_20 L8 (by decide) (by omega) (by decide) ?_
  refine z_raload_n h dX1_end_21 rfl ?_
  refine z_dup h dX1_end_22 rfl ?_
  refine y_get 12 h dX1_end_23 fX1_56 L5 rfl rfl ?_
  try simp (disch := omega) only [zup_eq, zup_ne, zup_nei]
  refine z_iconst h dX1_end_26 ?_
  refine z_iadd h dX1_end_27 ?_
  refine y_put 12 h dX1_end_28 fX1_56 pX1_12 L5 rfl rfl ?_
  refine z_irV h hr dX1_end_31 ?_
  rfl
theorem c_X1_timeOf (σ : zM) (i : Int) (hi : 0 ≤ i ∧ i < 10) (hh : -2147483648 ≤ σ 6 i ∧ σ 6 i ≤ 2147483647) : zCi mX1_timeOf (fun w => [zr w 5, zi i]) σ (fun r σ' => r = (if σ 6 i = 0 then σ 7 i else 200) ∧ σ' = σ) := by
  refine zCi_mk (own := RX1) rfl (by decide +kernel) (fun w => [some (zr w 5), some (zi i)]) (fun _ => rfl) (fun _ => Nat.le_of_ble_eq_true rfl) ?_
  intro Γ h hr
  refine z_raload_n h dX1_timeOf_0 rfl ?_
  refine z_getr h dX1_timeOf_1 fX1_9 L5 rfl ?_
  refine z_iload_n h dX1_timeOf_4 rfl ?_
  refine z_iald h dX1_timeOf_5 L6 (by decide) (by omega) ?_
  refine z_if_ne h dX1_timeOf_6 (by omega) (fun b6 => ?_) (fun b6 => ?_)
  · refine z_sipush h dX1_timeOf_18 (by decide) ?_
    refine z_irI h hr dX1_timeOf_21 ?_
    simp_all
  · refine z_raload_n h dX1_timeOf_9 rfl ?_
    refine z_getr h dX1_timeOf_10 fX1_15 L5 rfl ?_
    refine z_iload_n h dX1_timeOf_13 rfl ?_
    refine z_iald h dX1_timeOf_14 L7 (by decide) (by omega) ?_
    refine z_goto h dX1_timeOf_15 ?_
    refine z_irI h hr dX1_timeOf_21 ?_
    simp_all
