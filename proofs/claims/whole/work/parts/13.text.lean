/-! ===== THE TEXT ===== -/
def zsb (x : Int) : Int := if x < 128 then x else x - 256
def cText (σ : zM) (tx : List Int) : Prop := σ 1 2 = tx.length ∧ tx.length ≤ 300 ∧ (∀ (k : Nat) (x : Int), tx[k]? = some x → 0 ≤ x ∧ x ≤ 255 ∧ σ 2 k = zsb x) ∧ (∀ k : Int, 0 ≤ k → k < 3 → -1 ≤ σ 3 k ∧ σ 3 k ≤ 99)
def pFig (tx : List Int) (k : Nat) : Int := match tx[k]? with
  | some x => if 48 ≤ x ∧ x ≤ 57 then x - 48 else -1
  | none => -1
theorem pFig_rg (tx : List Int) (k : Nat) : -1 ≤ pFig tx k ∧ pFig tx k ≤ 9 := by
  unfold pFig
  split
  · split <;> omega
  · omega
def pNv (tx : List Int) (k : Nat) : Int × Nat := if pFig tx k < 0 then (-1, k) else if pFig tx (k + 1) < 0 then (pFig tx k, k + 1) else (10 * pFig tx k + pFig tx (k + 1), k + 2)
theorem pNv_rg (tx : List Int) (k : Nat) : -1 ≤ (pNv tx k).1 ∧ (pNv tx k).1 ≤ 99 := by
  have h1 := pFig_rg tx k
  have h2 := pFig_rg tx (k + 1)
  unfold pNv
  split
  · simp
  · split <;> simp <;> omega
def pNa (tx : List Int) : Nat → Nat → List Int → Option (List Int × Nat)
  | 0, k, acc => some (acc, k)
  | r + 1, k, acc => if (pNv tx k).1 < 0 then none else if tx[(pNv tx k).2]? = some (if r = 0 then 59 else 44) then pNa tx r ((pNv tx k).2 + 1) (acc ++ [(pNv tx k).1]) else none
def pOf (lt : Int) : Nat := if lt = 112 then 3 else if lt = 99 ∨ lt = 115 then 2 else if lt = 113 ∨ lt = 98 ∨ lt = 108 then 1 else 0
def pIt3 (P : zP) (lt : Int) (o : Option (List Int × Nat)) : Option (zP × Nat) := match o with
  | none => none
  | some (l, k') => (pTake P lt (l.getD 0 0) (l.getD 1 0) (l.getD 2 0)).map (fun P' => (P', k'))
def pItem (tx : List Int) (k : Nat) (P : zP) : Option (zP × Nat) := match tx[k]? with
  | none => none
  | some lt => if pOf lt = 0 then none else pIt3 P lt (pNa tx (pOf lt) (k + 1) [])
/-- all ITEMS from place k on: FAULT or -4, and the plan -/
def pAll (tx : List Int) : Nat → Nat → zP → Int × zP
  | 0, _, P => (-4, P)
  | f + 1, k, P => if k < tx.length then (match pItem tx k P with
    | none => ((k : Int), P)
    | some (P', k') => pAll tx f k' P') else (-4, P)
theorem cText_fr {σ σ' : zM} {tx : List Int} (h : cText σ tx) (h1 : σ' 1 2 = σ 1 2) (h2 : ∀ i, σ' 2 i = σ 2 i) (h3 : ∀ k : Int, 0 ≤ k → k < 3 → -1 ≤ σ' 3 k ∧ σ' 3 k ≤ 99) : cText σ' tx :=
  ⟨by rw [h1]; exact h.1, h.2.1, fun k x hk => by rw [h2]; exact h.2.2.1 k x hk, h3⟩
theorem zand_255 {x : Int} (h : 0 ≤ x ∧ x ≤ 255) : zand (zsb x) 255 = x := by
  have : ∀ j : Fin 256, zand (zsb ((j.val : Nat) : Int)) 255 = ((j.val : Nat) : Int) := by decide +kernel
  obtain ⟨n, rfl⟩ := Int.eq_ofNat_of_zero_le h.1
  exact this ⟨n, by omega⟩
theorem c_X6_figureAt (σ : zM) (tx : List Int) (k : Nat) (hx : cText σ tx) (hk : σ 1 3 = k) (hk2 : k ≤ 1000) : zCi mX6_figureAt (fun w => [zr w 1]) σ (fun r σ' => r = pFig tx k ∧ σ' = σ) := by
  refine zCi_mk (own := RX6) rfl (by decide +kernel) (fun w => [some (zr w 1)]) (fun _ => rfl) (fun _ => Nat.le_of_ble_eq_true rfl) ?_
  intro Γ h hr
  have h1 := hx.1
  have h2 := hx.2.1
  by_cases hlt : k < tx.length
  · have h3 := hx.2.2.1 k _ (List.getElem?_eq_getElem hlt)
    rw [← hk] at h3
    have h4 : pFig tx k = if 48 ≤ tx[k] ∧ tx[k] ≤ 57 then tx[k] - 48 else -1 := by unfold pFig; rw [List.getElem?_eq_getElem hlt]
    rw [h4] at hr
    have h5 : (σ 2 (σ 1 3) = tx[k] ∧ tx[k] < 128) ∨ (σ 2 (σ 1 3) = tx[k] - 256 ∧ 128 ≤ tx[k]) := by rw [h3.2.2]; unfold zsb; split <;> omega
    refine z_raload_n h dX6_figureAt_0 rfl ?_
    refine y_get 3 h dX6_figureAt_1 fX6_23 L1 rfl rfl ?_
    refine z_if_lt h dX6_figureAt_4 (by omega) (fun b4 => by exfalso; omega) (fun b4 => ?_)
    refine z_raload_n h dX6_figureAt_7 rfl ?_
    refine y_get 3 h dX6_figureAt_8 fX6_23 L1 rfl rfl ?_
    refine z_raload_n h dX6_figureAt_11 rfl ?_
    refine y_get 2 h dX6_figureAt_12 fX6_19 L1 rfl rfl ?_
    refine z_icmp_ge h dX6_figureAt_15 (by omega) (by omega) (fun b15 => by exfalso; omega) (fun b15 => ?_)
    refine z_raload_n h dX6_figureAt_18 rfl ?_
    refine z_getr h dX6_figureAt_19 fX6_9 L1 rfl ?_
    refine z_raload_n h dX6_figureAt_22 rfl ?_
    refine y_get 3 h dX6_figureAt_23 fX6_23 L1 rfl rfl ?_
    refine z_bald h dX6_figureAt_26 L2 (by decide) (by omega) ?_
    refine z_bipush h dX6_figureAt_27 (by decide) ?_
    refine z_icmp_lt h dX6_figureAt_29 (by omega) (by omega) (fun b29 => ?_) (fun b29 => ?_)
    · refine z_iconst h dX6_figureAt_46 ?_
      refine z_irI h hr dX6_figureAt_47 ?_
      refine ⟨?_, rfl⟩
      split <;> omega
    · refine z_raload_n h dX6_figureAt_32 rfl ?_
      refine z_getr h dX6_figureAt_33 fX6_9 L1 rfl ?_
      refine z_raload_n h dX6_figureAt_36 rfl ?_
      refine y_get 3 h dX6_figureAt_37 fX6_23 L1 rfl rfl ?_
      refine z_bald h dX6_figureAt_40 L2 (by decide) (by omega) ?_
      refine z_bipush h dX6_figureAt_41 (by decide) ?_
      refine z_icmp_le h dX6_figureAt_43 (by omega) (by omega) (fun b43 => ?_) (fun b43 => ?_)
      · refine z_raload_n h dX6_figureAt_48 rfl ?_
        refine z_getr h dX6_figureAt_49 fX6_9 L1 rfl ?_
        refine z_raload_n h dX6_figureAt_52 rfl ?_
        refine y_get 3 h dX6_figureAt_53 fX6_23 L1 rfl rfl ?_
        refine z_bald h dX6_figureAt_56 L2 (by decide) (by omega) ?_
        refine z_bipush h dX6_figureAt_57 (by decide) ?_
        refine z_isub h dX6_figureAt_59 ?_
        refine z_irI h hr dX6_figureAt_60 ?_
        refine ⟨?_, rfl⟩
        split <;> omega
      · refine z_iconst h dX6_figureAt_46 ?_
        refine z_irI h hr dX6_figureAt_47 ?_
        refine ⟨?_, rfl⟩
        split <;> omega
  · have h4 : pFig tx k = -1 := by unfold pFig; rw [List.getElem?_eq_none (by omega)]
    rw [h4] at hr
    refine z_raload_n h dX6_figureAt_0 rfl ?_
    refine y_get 3 h dX6_figureAt_1 fX6_23 L1 rfl rfl ?_
    refine z_if_lt h dX6_figureAt_4 (by omega) (fun b4 => by exfalso; omega) (fun b4 => ?_)
    refine z_raload_n h dX6_figureAt_7 rfl ?_
    refine y_get 3 h dX6_figureAt_8 fX6_23 L1 rfl rfl ?_
    refine z_raload_n h dX6_figureAt_11 rfl ?_
    refine y_get 2 h dX6_figureAt_12 fX6_19 L1 rfl rfl ?_
    refine z_icmp_ge h dX6_figureAt_15 (by omega) (by omega) (fun b15 => ?_) (fun b15 => by exfalso; omega)
    refine z_iconst h dX6_figureAt_46 ?_
    refine z_irI h hr dX6_figureAt_47 ?_
    exact ⟨rfl, rfl⟩
theorem c_X6_nextByte (σ : zM) (tx : List Int) (k : Nat) (hx : cText σ tx) (hk : σ 1 3 = k) (hk2 : k ≤ 1000) : zCi mX6_nextByte (fun w => [zr w 1]) σ (fun r σ' => (∃ x, tx[k]? = some x ∧ r = x ∧ σ' = zup σ 1 3 (k + 1)) ∨ (tx[k]? = none ∧ r = -1 ∧ σ' = σ)) := by
  refine zCi_mk (own := RX6) rfl (by decide +kernel) (fun w => [some (zr w 1), none]) (fun _ => rfl) (fun _ => Nat.le_of_ble_eq_true rfl) ?_
  intro Γ h hr
  have h1 := hx.1
  have h2 := hx.2.1
  by_cases hlt : k < tx.length
  · have h3 := hx.2.2.1 k _ (List.getElem?_eq_getElem hlt)
    rw [← hk] at h3
    refine z_raload_n h dX6_nextByte_0 rfl ?_
    refine y_get 3 h dX6_nextByte_1 fX6_23 L1 rfl rfl ?_
    refine z_if_lt h dX6_nextByte_4 (by omega) (fun b4 => by exfalso; omega) (fun b4 => ?_)
    refine z_raload_n h dX6_nextByte_7 rfl ?_
    refine y_get 3 h dX6_nextByte_8 fX6_23 L1 rfl rfl ?_
    refine z_raload_n h dX6_nextByte_11 rfl ?_
    refine y_get 2 h dX6_nextByte_12 fX6_19 L1 rfl rfl ?_
    refine z_icmp_lt h dX6_nextByte_15 (by omega) (by omega) (fun b15 => ?_) (fun b15 => by exfalso; omega)
    refine z_raload_n h dX6_nextByte_20 rfl ?_
    refine z_getr h dX6_nextByte_21 fX6_9 L1 rfl ?_
    refine z_raload_n h dX6_nextByte_24 rfl ?_
    refine y_get 3 h dX6_nextByte_25 fX6_23 L1 rfl rfl ?_
    refine z_bald h dX6_nextByte_28 L2 (by decide) (by omega) ?_
    refine z_sipush h dX6_nextByte_29 (by decide) ?_
    refine z_iand h dX6_nextByte_32 ?_
    rw [h3.2.2, zand_255 ⟨h3.1, h3.2.1⟩]
    refine z_ist1_n h dX6_nextByte_33 (by decide) (zst1_1 rfl) ?_
    refine z_raload_n h dX6_nextByte_34 rfl ?_
    refine z_dup h dX6_nextByte_35 rfl ?_
    refine y_get 3 h dX6_nextByte_36 fX6_23 L1 rfl rfl ?_
    refine z_iconst h dX6_nextByte_39 ?_
    refine z_iadd h dX6_nextByte_40 ?_
    refine y_put 3 h dX6_nextByte_41 fX6_23 pX6_3 L1 rfl rfl ?_
    refine z_iload_n h dX6_nextByte_44 rfl ?_
    refine z_irI h hr dX6_nextByte_45 ?_
    rw [hk]
    exact Or.inl ⟨tx[k], List.getElem?_eq_getElem hlt, rfl, rfl⟩
  · refine z_raload_n h dX6_nextByte_0 rfl ?_
    refine y_get 3 h dX6_nextByte_1 fX6_23 L1 rfl rfl ?_
    refine z_if_lt h dX6_nextByte_4 (by omega) (fun b4 => by exfalso; omega) (fun b4 => ?_)
    refine z_raload_n h dX6_nextByte_7 rfl ?_
    refine y_get 3 h dX6_nextByte_8 fX6_23 L1 rfl rfl ?_
    refine z_raload_n h dX6_nextByte_11 rfl ?_
    refine y_get 2 h dX6_nextByte_12 fX6_19 L1 rfl rfl ?_
    refine z_icmp_lt h dX6_nextByte_15 (by omega) (by omega) (fun b15 => by exfalso; omega) (fun b15 => ?_)
    refine z_iconst h dX6_nextByte_18 ?_
    refine z_irI h hr dX6_nextByte_19 ?_
    exact Or.inr ⟨List.getElem?_eq_none (by omega), rfl, rfl⟩
theorem c_X6_readNumber (σ : zM) (tx : List Int) (k : Nat) (hx : cText σ tx) (hk : σ 1 3 = k) (hk2 : k ≤ 900) : zCi mX6_readNumber (fun w => [zr w 1]) σ (fun r σ' => r = (pNv tx k).1 ∧ σ' 1 3 = (pNv tx k).2 ∧ (∀ c i, ¬ (c = 1 ∧ i = 3) → σ' c i = σ c i)) := by
  refine zCi_mk (own := RX6) rfl (by decide +kernel) (fun w => [some (zr w 1), none, none]) (fun _ => rfl) (fun _ => Nat.le_of_ble_eq_true rfl) ?_
  intro Γ h hr
  have g1 := pFig_rg tx k
  have g2 := pFig_rg tx (k + 1)
  have hne : ∀ (v : Int) c i, ¬ (c = 1 ∧ i = 3) → zup σ 1 3 v c i = σ c i := fun v c i h => by rw [zup, if_neg h]
  refine z_raload_n h dX6_readNumber_0 rfl ?_
  refine z_cVi0 h dX6_readNumber_1 lX6_54 vX6_figureAt rfl L1 (c_X6_figureAt σ tx k hx hk (by omega)) rfl (Nat.le_of_ble_eq_true rfl) (by decide) (fun v σ1 h1 => ?_)
  obtain ⟨rfl, rfl⟩ := h1
  refine z_ist1_n h dX6_readNumber_4 (by decide) (zst1_1 rfl) ?_
  refine z_iload_n h dX6_readNumber_5 rfl ?_
  refine z_if_ge h dX6_readNumber_6 (by omega) (fun b6 => ?_) (fun b6 => ?_)
  · refine z_raload_n h dX6_readNumber_11 rfl ?_
    refine z_dup h dX6_readNumber_12 rfl ?_
    refine y_get 3 h dX6_readNumber_13 fX6_23 L1 rfl rfl ?_
    refine z_iconst h dX6_readNumber_16 ?_
    refine z_iadd h dX6_readNumber_17 ?_
    refine y_put 3 h dX6_readNumber_18 fX6_23 pX6_3 L1 rfl rfl ?_
    refine z_raload_n h dX6_readNumber_21 rfl ?_
    refine z_cVi0 h dX6_readNumber_22 lX6_54 vX6_figureAt rfl L1 (c_X6_figureAt _ tx (k + 1) (cText_fr hx (zup_nei (by omega)) (fun i => zup_ne (by omega)) (fun k a b => by rw [zup_ne (by omega)]; exact hx.2.2.2 k a b)) (by rw [zup_eq, hk]; omega) (by omega)) rfl (Nat.le_of_ble_eq_true rfl) (by decide) (fun v2 σ2 h2 => ?_)
    obtain ⟨rfl, rfl⟩ := h2
    refine z_ist1_n h dX6_readNumber_25 (by decide) (zst1_2 rfl) ?_
    refine z_iload_n h dX6_readNumber_26 rfl ?_
    refine z_if_ge h dX6_readNumber_27 (by omega) (fun b27 => ?_) (fun b27 => ?_)
    · refine z_raload_n h dX6_readNumber_32 rfl ?_
      refine z_dup h dX6_readNumber_33 rfl ?_
      refine y_get 3 h dX6_readNumber_34 fX6_23 L1 rfl rfl ?_
      try simp (disch := omega) only [zup_eq, zup_ne, zup_nei]
      refine z_iconst h dX6_readNumber_37 ?_
      refine z_iadd h dX6_readNumber_38 ?_
      refine y_put 3 h dX6_readNumber_39 fX6_23 pX6_3 L1 rfl rfl ?_
      refine z_bipush h dX6_readNumber_42 (by decide) ?_
      refine z_iload_n h dX6_readNumber_44 rfl ?_
      refine z_imul h dX6_readNumber_45 ?_
      refine z_iload_n h dX6_readNumber_46 rfl ?_
      refine z_iadd h dX6_readNumber_47 ?_
      refine z_irI h hr dX6_readNumber_48 ?_
      have e : pNv tx k = (10 * pFig tx k + pFig tx (k + 1), k + 2) := by (unfold pNv; rw [if_neg (by omega), if_neg (by omega)])
      rw [e]
      refine ⟨rfl, by rw [zup_eq, hk]; simp; omega, fun c i hci => ?_⟩
      rw [zup, if_neg hci]
      exact hne _ c i hci
    · refine z_iload_n h dX6_readNumber_30 rfl ?_
      refine z_irI h hr dX6_readNumber_31 ?_
      have e : pNv tx k = (pFig tx k, k + 1) := by (unfold pNv; rw [if_neg (by omega), if_pos (by omega)])
      rw [e]
      exact ⟨rfl, by rw [zup_eq, hk]; rfl, hne _⟩
  · refine z_iload_n h dX6_readNumber_9 rfl ?_
    refine z_irI h hr dX6_readNumber_10 ?_
    have e : pNv tx k = (-1, k) := by (unfold pNv; rw [if_pos (by omega)])
    rw [e]
    exact ⟨by omega, hk, fun _ _ _ => rfl⟩
theorem c_X6_numbersOf (σ : zM) (lt : Int) (hlt : -1 ≤ lt ∧ lt ≤ 255) : zCi mX6_numbersOf (fun w => [zi lt]) σ (fun r σ' => r = pOf lt ∧ σ' = σ) := by
  refine zCi_mk (own := RX6) rfl (by decide +kernel) (fun w => [some (zi lt)]) (fun _ => rfl) (fun _ => Nat.le_of_ble_eq_true rfl) ?_
  intro Γ h hr
  by_cases ho : lt < 98 ∨ 115 < lt
  · have e : pOf lt = 0 := by unfold pOf; rw [if_neg (by omega), if_neg (by omega), if_neg (by omega)]
    rw [e] at hr
    refine z_iload_n h dX6_numbersOf_0 rfl ?_
    refine z_tabOut (t := 94) h dX6_numbersOf_1 (by omega) (ho) (by decide) ?_
    refine z_iconst h dX6_numbersOf_94 ?_
    refine z_irI h hr dX6_numbersOf_95 ?_
    exact ⟨rfl, rfl⟩
  · by_cases e1 : lt = 112
    · have e : pOf lt = 3 := by unfold pOf; rw [if_pos e1]
      rw [e] at hr
      refine z_iload_n h dX6_numbersOf_0 rfl ?_
      refine z_tabIn (t := 88) h (112) dX6_numbersOf_1 (e1) (by decide) (by rfl) (by decide) ?_
      refine z_iconst h dX6_numbersOf_88 ?_
      refine z_irI h hr dX6_numbersOf_89 ?_
      exact ⟨rfl, rfl⟩
    · by_cases e2 : lt = 99 ∨ lt = 115
      · have e : pOf lt = 2 := by unfold pOf; rw [if_neg e1, if_pos e2]
        rw [e] at hr
        refine z_iload_n h dX6_numbersOf_0 rfl ?_
        refine z_tabIn (t := 90) (off := 89) h lt dX6_numbersOf_1 rfl (by omega) (by rcases e2 with rfl | rfl <;> rfl) (by decide) ?_
        refine z_iconst h dX6_numbersOf_90 ?_
        refine z_irI h hr dX6_numbersOf_91 ?_
        exact ⟨rfl, rfl⟩
      · by_cases e3 : lt = 113 ∨ lt = 98 ∨ lt = 108
        · have e : pOf lt = 1 := by unfold pOf; rw [if_neg e1, if_neg e2, if_pos e3]
          rw [e] at hr
          refine z_iload_n h dX6_numbersOf_0 rfl ?_
          refine z_tabIn (t := 92) (off := 91) h lt dX6_numbersOf_1 rfl (by omega) (by rcases e3 with rfl | rfl | rfl <;> rfl) (by decide) ?_
          refine z_iconst h dX6_numbersOf_92 ?_
          refine z_irI h hr dX6_numbersOf_93 ?_
          exact ⟨rfl, rfl⟩
        · have e : pOf lt = 0 := by unfold pOf; rw [if_neg e1, if_neg e2, if_neg e3]
          rw [e] at hr
          refine z_iload_n h dX6_numbersOf_0 rfl ?_
          refine z_tabIn (t := 94) (off := 93) h lt dX6_numbersOf_1 rfl (by omega) (by rcases (show lt = 100 ∨ lt = 101 ∨ lt = 102 ∨ lt = 103 ∨ lt = 104 ∨ lt = 105 ∨ lt = 106 ∨ lt = 107 ∨ lt = 109 ∨ lt = 110 ∨ lt = 111 ∨ lt = 114 by omega) with rfl | rfl | rfl | rfl | rfl | rfl | rfl | rfl | rfl | rfl | rfl | rfl <;> rfl) (by decide) ?_
          refine z_iconst h dX6_numbersOf_94 ?_
          refine z_irI h hr dX6_numbersOf_95 ?_
          exact ⟨rfl, rfl⟩
