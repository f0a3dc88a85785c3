theorem pNv_le (tx : List Int) (k : Nat) : (pNv tx k).2 ≤ k + 2 := by
  unfold pNv
  split
  · simp
  · split <;> simp
abbrev zNB (tx : List Int) (k : Nat) (σ : zM) (v : Int) (σ' : zM) : Prop := (∃ x, tx[k]? = some x ∧ v = x ∧ σ' = zup σ 1 3 (k + 1)) ∨ (tx[k]? = none ∧ v = -1 ∧ σ' = σ)
theorem zNB_v {tx : List Int} {k : Nat} {σ σ' : zM} {v : Int} (hx : cText σ tx) (h : zNB tx k σ v σ') : -1 ≤ v ∧ v ≤ 255 := by
  rcases h with ⟨x, a1, rfl, a3⟩ | ⟨a1, rfl, a3⟩
  · have := hx.2.2.1 _ _ a1
    omega
  · omega
theorem zNB_t {tx : List Int} {k : Nat} {σ σ' : zM} {v : Int} (hx : cText σ tx) (h : zNB tx k σ v σ') : cText σ' tx := by
  rcases h with ⟨x, a1, a2, rfl⟩ | ⟨a1, a2, rfl⟩
  · exact cText_fr hx (zup_nei (by omega)) (fun i => zup_ne (by omega)) (fun i a b => by rw [zup_ne (by omega)]; exact hx.2.2.2 i a b)
  · exact hx
theorem zNB_f {tx : List Int} {k : Nat} {σ σ' : zM} {v : Int} (h : zNB tx k σ v σ') : ∀ c, c ≠ 1 → ∀ i, σ' c i = σ c i := by
  rcases h with ⟨x, a1, a2, rfl⟩ | ⟨a1, a2, rfl⟩
  · exact fun c hc i => zup_ne hc
  · exact fun _ _ _ => rfl
theorem zNB_ne {tx : List Int} {k : Nat} {σ σ' : zM} {v s : Int} (h : zNB tx k σ v σ') (hv : v ≠ s) (hs : 0 ≤ s) : ¬ tx[k]? = some s := by
  intro z
  rcases h with ⟨x, a1, rfl, a3⟩ | ⟨a1, rfl, a3⟩
  · rw [a1] at z; exact hv (Option.some.inj z)
  · rw [a1] at z; cases z
theorem zT3 {tx : List Int} {σ1 σ2 : zM} {j v : Int} (hx : cText σ1 tx) (hv : -1 ≤ v ∧ v ≤ 99) (h : ∀ i, σ2 3 i = σ1 3 i) : ∀ i : Int, 0 ≤ i → i < 3 → -1 ≤ zup σ2 3 j v 3 i ∧ zup σ2 3 j v 3 i ≤ 99 := by
  intro i a b
  by_cases e : i = j
  · rw [e, zup_eq]; exact hv
  · rw [zup_nei e, h]; exact hx.2.2.2 i a b
theorem zAcc {σ1 σ2 : zM} {acc : List Int} {v w : Int} (h7 : ∀ (i : Nat) v, acc[i]? = some v → σ1 3 i = v ∧ 0 ≤ v ∧ v ≤ 99) (h : ∀ i, σ2 3 i = σ1 3 i) (hv : 0 ≤ v ∧ v ≤ 99) : ∀ (i : Nat) u, (acc ++ [v])[i]? = some u → zup (zup σ2 3 acc.length v) 1 3 w 3 i = u ∧ 0 ≤ u ∧ u ≤ 99 := by
  intro i u hu
  rw [zup_ne (by omega)]
  by_cases e : i < acc.length
  · rw [List.getElem?_append_left e] at hu
    rw [zup_nei (by omega), h]
    exact h7 i u hu
  · have e2 := (List.getElem?_eq_some_iff.mp hu).1
    simp at e2
    have e3 : i = acc.length := by omega
    subst e3
    simp at hu
    subst hu
    rw [zup_eq]
    exact ⟨rfl, hv⟩
theorem c_X6_readNumbers (σ : zM) (tx : List Int) (k mn : Nat) (hx : cText σ tx) (hk : σ 1 3 = k) (hk2 : k ≤ 301) (hmn : mn ≤ 3) : zCi mX6_readNumbers (fun w => [zr w 1, zi mn]) σ (fun r σ' => cText σ' tx ∧ zfr 1 3 σ σ' ∧ ((∃ l k', pNa tx mn k [] = some (l, k') ∧ r = 1 ∧ l.length = mn ∧ (∀ (i : Nat) v, l[i]? = some v → σ' 3 i = v ∧ 0 ≤ v ∧ v ≤ 99) ∧ σ' 1 3 = k' ∧ k' ≤ 301) ∨ (pNa tx mn k [] = none ∧ r = 0))) := by
  refine zCi_mk (own := RX6) rfl (by decide +kernel) (fun w => [some (zr w 1), some (zi mn), none]) (fun _ => rfl) (fun _ => Nat.le_of_ble_eq_true rfl) ?_
  intro Γ h hr
  have L : ∀ (r : Nat) (σ1 : zM) (acc : List Int) (kj : Nat), acc.length + r = mn → pNa tx mn k [] = pNa tx r kj acc → σ1 1 3 = kj → kj ≤ 301 → cText σ1 tx → zfr 1 3 σ σ1 → (∀ (i : Nat) v, acc[i]? = some v → σ1 3 i = v ∧ 0 ≤ v ∧ v ≤ 99) → zV Γ σ1 2 [some (zr (zw Γ) 1), some (zi mn), some (zi acc.length)] [] := by
    intro r
    induction r with
    | zero =>
      intro σ1 acc kj h1 h2 h3 h4 h5 h6 h7
      refine z_iload_n h dX6_readNumbers_2 rfl ?_
      refine z_iload_n h dX6_readNumbers_3 rfl ?_
      refine z_icmp_ge h dX6_readNumbers_4 (by omega) (by omega) (fun b4 => ?_) (fun b4 => by exfalso; omega)
      refine z_iconst h dX6_readNumbers_64 ?_
      refine z_irZ h hr dX6_readNumbers_65 (by first | decide | omega | simp_all) ?_
      refine ⟨h5, h6, Or.inl ⟨acc, kj, by rw [h2]; rfl, rfl, by omega, h7, h3, h4⟩⟩
    | succ r ih =>
      intro σ1 acc kj h1 h2 h3 h4 h5 h6 h7
      have g1 := pNv_rg tx kj
      have g2 := pNv_le tx kj
      rw [show pNa tx (r + 1) kj acc = (if (pNv tx kj).1 < 0 then none else if tx[(pNv tx kj).2]? = some (if r = 0 then 59 else 44) then pNa tx r ((pNv tx kj).2 + 1) (acc ++ [(pNv tx kj).1]) else none) from rfl] at h2
      refine z_iload_n h dX6_readNumbers_2 rfl ?_
      refine z_iload_n h dX6_readNumbers_3 rfl ?_
      refine z_icmp_ge h dX6_readNumbers_4 (by omega) (by omega) (fun b4 => by exfalso; omega) (fun b4 => ?_)
      refine z_iload_n h dX6_readNumbers_7 rfl ?_
      refine z_raload_n h dX6_readNumbers_8 rfl ?_
      refine z_getr h dX6_readNumbers_9 fX6_15 L1 rfl ?_
      refine y_alen 3 h dX6_readNumbers_12 L3 (by decide) rfl ?_
      refine z_icmp_ge h dX6_readNumbers_13 (by omega) (by omega) (fun b13 => by exfalso; omega) (fun b13 => ?_)
      refine z_raload_n h dX6_readNumbers_16 rfl ?_
      refine z_getr h dX6_readNumbers_17 fX6_15 L1 rfl ?_
      refine z_iload_n h dX6_readNumbers_20 rfl ?_
      refine z_raload_n h dX6_readNumbers_21 rfl ?_
      refine z_cVi0 h dX6_readNumbers_22 lX6_51 vX6_readNumber rfl L1 (c_X6_readNumber σ1 tx kj h5 h3 (by omega)) rfl (Nat.le_of_ble_eq_true rfl) (by decide) (fun v σ2 h8 => ?_)
      obtain ⟨rfl, h9, h10⟩ := h8
      have h11 : cText (zup σ2 3 acc.length (pNv tx kj).1) tx := cText_fr h5 (by rw [zup_ne (by omega)]; exact h10 1 2 (by omega)) (fun i => by rw [zup_ne (by omega)]; exact h10 2 i (by omega)) (zT3 h5 (by omega) (fun i => h10 3 i (by omega)))
      have h12 : zfr 1 3 σ (zup σ2 3 acc.length (pNv tx kj).1) := zfr_up (zfr_tr h6 (fun c hc i => h10 c i (by omega))) (by omega) (by omega)
      refine z_iast h dX6_readNumbers_25 L3 (by decide) (by omega) ?_
      refine z_raload_n h dX6_readNumbers_26 rfl ?_
      refine z_getr h dX6_readNumbers_27 fX6_15 L1 rfl ?_
      refine z_iload_n h dX6_readNumbers_30 rfl ?_
      refine z_iald h dX6_readNumbers_31 L3 (by decide) (by omega) ?_
      try simp (disch := omega) only [zup_eq, zup_ne, zup_nei]
      refine z_if_lt h dX6_readNumbers_32 (by omega) (fun b32 => ?_) (fun b32 => ?_)
      · refine z_iconst h dX6_readNumbers_56 ?_
        refine z_irZ h hr dX6_readNumbers_57 (by first | decide | omega | simp_all) ?_
        refine ⟨by first | exact h15 | exact h11, by first | exact h16 | exact h12, Or.inr ⟨?_, rfl⟩⟩
        rw [h2]
        by_cases e : (pNv tx kj).1 < 0
        · rw [if_pos e]
        · rw [if_neg e]
          first | (exfalso; omega) | exact if_neg (zNB_ne h13 (by split <;> omega) (by split <;> omega))
      · refine z_raload_n h dX6_readNumbers_35 rfl ?_
        refine z_cVi0 h dX6_readNumbers_36 lX6_35 vX6_nextByte rfl L1 (c_X6_nextByte _ tx (pNv tx kj).2 h11 (by rw [zup_ne (by omega)]; exact h9) (by omega)) rfl (Nat.le_of_ble_eq_true rfl) (by decide) (fun v2 σ3 h13 => ?_)
        have h14 := zNB_v h11 h13
        have h15 : cText σ3 tx := zNB_t h11 h13
        have h16 : zfr 1 3 σ σ3 := zfr_tr h12 (fun c hc i => zNB_f h13 c (by omega) i)
        refine z_iload_n h dX6_readNumbers_39 rfl ?_
        refine z_iload_n h dX6_readNumbers_40 rfl ?_
        refine z_iconst h dX6_readNumbers_41 ?_
        refine z_isub h dX6_readNumbers_42 ?_
        refine z_icmp_ne h dX6_readNumbers_43 (by omega) (by omega) (fun b43 => ?_) (fun b43 => ?_)
        · refine z_bipush h dX6_readNumbers_51 (by decide) ?_
          refine z_icmp_eq h dX6_readNumbers_53 (by omega) (by omega) (fun b53 => ?_) (fun b53 => ?_)
          · refine z_iinc h dX6_readNumbers_58 (by decide) rfl (zst1_2 rfl) ?_
            refine z_goto h dX6_readNumbers_61 ?_
            rw [if_neg (by omega)] at h2
            rcases h13 with ⟨x, a1, rfl, rfl⟩ | ⟨a1, rfl, a3⟩
            rotate_left
            · exfalso; omega
            have hlt := (List.getElem?_eq_some_iff.mp a1).1
            have h17 := h5.2.1
            rw [if_pos (by rw [a1]; congr 1; split <;> omega)] at h2
            have h18 := zAcc (w := (pNv tx kj).2 + 1) h7 (fun i => h10 3 i (by omega)) (show 0 ≤ (pNv tx kj).1 ∧ (pNv tx kj).1 ≤ 99 by omega)
            have h19 := ih _ (acc ++ [(pNv tx kj).1]) ((pNv tx kj).2 + 1) (by simp; omega) h2 (by rw [zup_eq]; rfl) (by omega) h15 h16 h18
            rw [List.length_append, List.length_singleton] at h19
            exact h19
          · refine z_iconst h dX6_readNumbers_56 ?_
            refine z_irZ h hr dX6_readNumbers_57 (by first | decide | omega | simp_all) ?_
            refine ⟨by first | exact h15 | exact h11, by first | exact h16 | exact h12, Or.inr ⟨?_, rfl⟩⟩
            rw [h2]
            by_cases e : (pNv tx kj).1 < 0
            · rw [if_pos e]
            · rw [if_neg e]
              first | (exfalso; omega) | exact if_neg (zNB_ne h13 (by split <;> omega) (by split <;> omega))
        · refine z_bipush h dX6_readNumbers_46 (by decide) ?_
          refine z_goto h dX6_readNumbers_48 ?_
          refine z_icmp_eq h dX6_readNumbers_53 (by omega) (by omega) (fun b53 => ?_) (fun b53 => ?_)
          · refine z_iinc h dX6_readNumbers_58 (by decide) rfl (zst1_2 rfl) ?_
            refine z_goto h dX6_readNumbers_61 ?_
            rw [if_neg (by omega)] at h2
            rcases h13 with ⟨x, a1, rfl, rfl⟩ | ⟨a1, rfl, a3⟩
            rotate_left
            · exfalso; omega
            have hlt := (List.getElem?_eq_some_iff.mp a1).1
            have h17 := h5.2.1
            rw [if_pos (by rw [a1]; congr 1; split <;> omega)] at h2
            have h18 := zAcc (w := (pNv tx kj).2 + 1) h7 (fun i => h10 3 i (by omega)) (show 0 ≤ (pNv tx kj).1 ∧ (pNv tx kj).1 ≤ 99 by omega)
            have h19 := ih _ (acc ++ [(pNv tx kj).1]) ((pNv tx kj).2 + 1) (by simp; omega) h2 (by rw [zup_eq]; rfl) (by omega) h15 h16 h18
            rw [List.length_append, List.length_singleton] at h19
            exact h19
          · refine z_iconst h dX6_readNumbers_56 ?_
            refine z_irZ h hr dX6_readNumbers_57 (by first | decide | omega | simp_all) ?_
            refine ⟨by first | exact h15 | exact h11, by first | exact h16 | exact h12, Or.inr ⟨?_, rfl⟩⟩
            rw [h2]
            by_cases e : (pNv tx kj).1 < 0
            · rw [if_pos e]
            · rw [if_neg e]
              first | (exfalso; omega) | exact if_neg (zNB_ne h13 (by split <;> omega) (by split <;> omega))
  refine z_iconst h dX6_readNumbers_0 ?_
  refine z_ist1_n h dX6_readNumbers_1 (by decide) (zst1_2 rfl) ?_
  exact L mn σ [] k (by simp) rfl hk hk2 hx zfr_rf (by simp)
theorem pTake_1 {P : zP} {lt a b c : Int} (h : pOf lt = 1) : pTake P lt a b c = pTake P lt a 0 0 := by
  unfold pOf at h
  unfold pTake
  split at h
  · omega
  · split at h
    · omega
    · next h1 h2 =>
      have n1 : ¬ lt = 99 := by omega
      have n2 : ¬ lt = 115 := by omega
      rw [if_neg h1, if_neg n1, if_neg n2, if_neg h1, if_neg n1, if_neg n2]
theorem pTake_2 {P : zP} {lt a b c : Int} (h : pOf lt = 2) : pTake P lt a b c = pTake P lt a b 0 := by
  unfold pOf at h
  unfold pTake
  split at h
  · omega
  · next h1 => rw [if_neg h1, if_neg h1]
theorem pOf_3 {lt : Int} : (pOf lt = 3 → lt = 112) ∧ (pOf lt = 2 → lt = 99 ∨ lt = 115) ∧ (lt = 112 → pOf lt = 3) ∧ (lt = 99 ∨ lt = 115 → pOf lt = 2) ∧ pOf lt ≤ 3 := by
  unfold pOf
  refine ⟨?_, ?_, ?_, ?_, ?_⟩ <;> split <;> (try split) <;> (try split) <;> omega
theorem zTk {P : zP} {lt : Int} {a b c a' b' c' : Int} (e0 : a' = a) (e1 : 2 ≤ pOf lt → b' = b) (e2 : 3 ≤ pOf lt → c' = c) (h : pOf lt ≠ 0) : pTake P lt a b c = pTake P lt a' b' c' := by
  have h7 := @pOf_3 lt
  rw [e0]
  rcases (show pOf lt = 1 ∨ pOf lt = 2 ∨ pOf lt = 3 by omega) with e | e | e
  · rw [pTake_1 e, pTake_1 (b := b') e]
  · rw [e1 (by omega), pTake_2 e, pTake_2 (c := c') e]
  · rw [e1 (by omega), e2 (by omega)]
theorem c_X6_readItem (σ : zM) (tx : List Int) (k : Nat) (π : Nat) (hp : zPl π) (P : zP) (hP : cPlan σ π P) (hx : cText σ tx) (hk : σ 1 3 = k) (hk2 : k ≤ 300) : zCi mX6_readItem (fun w => [zr w 1, zr w π]) σ (fun r σ' => cText σ' tx ∧ (∀ c, (c < 1 ∨ 3 < c) → (c < π ∨ π + 8 < c) → ∀ i, σ' c i = σ c i) ∧ ((∃ P' k', pItem tx k P = some (P', k') ∧ r = 1 ∧ cPlan σ' π P' ∧ σ' 1 3 = k' ∧ k' ≤ 301) ∨ (pItem tx k P = none ∧ r = 0 ∧ ∃ l, cCry σ' (π + 5) l))) := by
  refine zCi_mk (own := RX6) rfl (by decide +kernel) (fun w => [some (zr w 1), some (zr w π), none, none]) (fun _ => rfl) (fun _ => Nat.le_of_ble_eq_true rfl) ?_
  intro Γ h hr
  have hpi : 39 ≤ π := by unfold zPl at hp; omega
  refine z_raload_n h dX6_readItem_0 rfl ?_
  refine z_cVi0 h dX6_readItem_1 lX6_35 vX6_nextByte rfl L1 (c_X6_nextByte σ tx k hx hk (by omega)) rfl (Nat.le_of_ble_eq_true rfl) (by decide) (fun lt σ1 h1 => ?_)
  have h2 := zNB_v hx h1
  have h3 : cText σ1 tx := zNB_t hx h1
  have h4 : ∀ c, c ≠ 1 → ∀ i, σ1 c i = σ c i := zNB_f h1
  have h5 : cPlan σ1 π P := cPlan_fr hP (fun c a b i => h4 c (by omega) i)
  refine z_ist1_n h dX6_readItem_4 (by decide) (zst1_2 rfl) ?_
  refine z_iload_n h dX6_readItem_5 rfl ?_
  refine z_cSi1 h dX6_readItem_6 lX6_39 vX6_numbersOf (c_X6_numbersOf σ1 lt h2) rfl (Nat.le_of_ble_eq_true rfl) (by decide) (fun mn σ2 h6 => ?_)
  obtain ⟨rfl, rfl⟩ := h6
  have h7 := @pOf_3 lt
  refine z_ist1_n h dX6_readItem_9 (by decide) (zst1_3 rfl) ?_
  refine z_iload_n h dX6_readItem_10 rfl ?_
  refine z_if_le h dX6_readItem_11 (by omega) (fun b11 => ?_) (fun b11 => ?_)
  · refine z_iconst h dX6_readItem_52 ?_
    refine z_irZ h hr dX6_readItem_53 (by decide) ?_
    refine ⟨h3, fun c a b i => h4 c (by omega) i, Or.inr ⟨?_, rfl, _, h5.2.2.2.1⟩⟩
    unfold pItem
    rcases h1 with ⟨x, a1, rfl, a3⟩ | ⟨a1, rfl, a3⟩
    · rw [a1]
      show (if pOf lt = 0 then none else _) = none
      rw [if_pos (by omega)]
    · rw [a1]
  · rcases h1 with ⟨x, a1, rfl, rfl⟩ | ⟨a1, rfl, a3⟩
    rotate_left
    · exfalso; revert b11; decide
    have h8 : pItem tx k P = pIt3 P lt (pNa tx (pOf lt) (k + 1) []) := by (unfold pItem; rw [a1]; exact if_neg (by omega))
    refine z_raload_n h dX6_readItem_14 rfl ?_
    refine z_iload_n h dX6_readItem_15 rfl ?_
    refine z_cVi1 h dX6_readItem_16 lX6_43 vX6_readNumbers rfl L1 (c_X6_readNumbers _ tx (k + 1) (pOf lt) h3 (by rw [zup_eq]; rfl) (by omega) (by omega)) rfl (Nat.le_of_ble_eq_true rfl) (by decide) (fun v σ3 h9 => ?_)
    obtain ⟨h10, h11, h12⟩ := h9
    have hv : v = 0 ∨ v = 1 := by (rcases h12 with ⟨l, k', a2, rfl, -⟩ | ⟨a2, rfl⟩ <;> simp)
    have h13 : cPlan σ3 π P := cPlan_fr h5 (fun c a b i => h11 c (by omega) i)
    refine z_if_eq h dX6_readItem_19 (by omega) (fun b19 => ?_) (fun b19 => ?_)
    · refine z_iconst h dX6_readItem_52 ?_
      refine z_irZ h hr dX6_readItem_53 (by decide) ?_
      refine ⟨h10, fun c a b i => (h11 c a i).trans (h4 c (by omega) i), Or.inr ⟨?_, rfl, _, h13.2.2.2.1⟩⟩
      rcases h12 with ⟨l, k', a2, rfl, -⟩ | ⟨a2, rfl⟩
      · exfalso; omega
      · rw [h8, a2]; rfl
    · rcases h12 with ⟨l, k', a2, -, a4, a5, a6, a7⟩ | ⟨a2, rfl⟩
      rotate_left
      · exfalso; omega
      rw [a2] at h8
      have h8 : pItem tx k P = (pTake P lt (l.getD 0 0) (l.getD 1 0) (l.getD 2 0)).map (fun P' => (P', k')) := h8
      have c0 : σ3 3 0 = l.getD 0 0 ∧ 0 ≤ l.getD 0 0 ∧ l.getD 0 0 ≤ 99 := by (have hl : 0 < l.length := (by omega); have := a5 0 _ (List.getElem?_eq_getElem hl); rw [List.getD_eq_getElem?_getD, List.getElem?_eq_getElem hl]; exact this)
      have c1 : 2 ≤ pOf lt → (σ3 3 1 = l.getD 1 0 ∧ 0 ≤ l.getD 1 0 ∧ l.getD 1 0 ≤ 99) := by (intro z; have hl : 1 < l.length := (by omega); have := a5 1 _ (List.getElem?_eq_getElem hl); rw [List.getD_eq_getElem?_getD, List.getElem?_eq_getElem hl]; exact this)
      have c2 : 3 ≤ pOf lt → (σ3 3 2 = l.getD 2 0 ∧ 0 ≤ l.getD 2 0 ∧ l.getD 2 0 ≤ 99) := by (intro z; have hl : 2 < l.length := (by omega); have := a5 2 _ (List.getElem?_eq_getElem hl); rw [List.getD_eq_getElem?_getD, List.getElem?_eq_getElem hl]; exact this)
      have r1 := h10.2.2.2 1 (by omega) (by omega)
      have r2 := h10.2.2.2 2 (by omega) (by omega)
      have h14 := zTk c0.1 (fun z => (c1 z).1) (fun z => (c2 z).1) (P := P) (by omega)
      rw [h14] at h8
      refine z_raload_n h dX6_readItem_22 rfl ?_
      refine z_iload_n h dX6_readItem_23 rfl ?_
      refine z_raload_n h dX6_readItem_24 rfl ?_
      refine z_getr h dX6_readItem_25 fX6_15 L1 rfl ?_
      refine z_iconst h dX6_readItem_28 ?_
      refine z_iald h dX6_readItem_29 L3 (by decide) (by omega) ?_
      refine z_raload_n h dX6_readItem_30 rfl ?_
      refine z_getr h dX6_readItem_31 fX6_15 L1 rfl ?_
      refine z_iconst h dX6_readItem_34 ?_
      refine z_iald h dX6_readItem_35 L3 (by decide) (by omega) ?_
      refine z_raload_n h dX6_readItem_36 rfl ?_
      refine z_getr h dX6_readItem_37 fX6_15 L1 rfl ?_
      refine z_iconst h dX6_readItem_40 ?_
      refine z_iald h dX6_readItem_41 L3 (by decide) (by omega) ?_
      refine z_cVi4 h dX6_readItem_42 lX6_47 vX4_take rfl (zPl_o hp) (c_X4_take σ3 π hp P h13 lt (σ3 3 0) (σ3 3 1) (σ3 3 2) h2 (by omega) (by omega) (by omega) (fun z => by (have z1 : 2 ≤ pOf lt := (by omega); have := c1 z1; omega)) (fun z => by (have z1 : 3 ≤ pOf lt := (by omega); have := c2 z1; omega))) rfl (Nat.le_of_ble_eq_true rfl) (by decide) (fun v2 σ4 h15 => ?_)
      obtain ⟨h16, h17⟩ := h15
      have hv2 : v2 = 0 ∨ v2 = 1 := by (rcases h17 with ⟨P', b1, rfl, b3⟩ | ⟨b1, rfl, b3⟩ <;> simp)
      have h18 : cText σ4 tx := cText_fr h10 (h16 1 (by omega) 2) (fun i => h16 2 (by omega) i) (fun i a b => by rw [h16 3 (by omega)]; exact h10.2.2.2 i a b)
      have h19 : ∀ c, (c < 1 ∨ 3 < c) → (c < π ∨ π + 8 < c) → ∀ i, σ4 c i = σ c i := fun c a b i => ((h16 c b i).trans (h11 c a i)).trans (h4 c (by omega) i)
      refine z_if_eq h dX6_readItem_45 (by omega) (fun b45 => ?_) (fun b45 => ?_)
      · refine z_iconst h dX6_readItem_52 ?_
        refine z_irZ h hr dX6_readItem_53 (by first | decide | omega | simp_all) ?_
        refine ⟨h18, h19, ?_⟩
        rcases h17 with ⟨P', b1, rfl, b3⟩ | ⟨b1, rfl, b3⟩
        · first | (exfalso; omega) | exact Or.inl ⟨P', k', by rw [h8, b1]; rfl, rfl, b3, by rw [h16 1 (by omega)]; exact a6, a7⟩
        · first | (exfalso; omega) | exact Or.inr ⟨by rw [h8, b1]; rfl, rfl, b3⟩
      · refine z_iconst h dX6_readItem_48 ?_
        refine z_goto h dX6_readItem_49 ?_
        refine z_irZ h hr dX6_readItem_53 (by first | decide | omega | simp_all) ?_
        refine ⟨h18, h19, ?_⟩
        rcases h17 with ⟨P', b1, rfl, b3⟩ | ⟨b1, rfl, b3⟩
        · first | (exfalso; omega) | exact Or.inl ⟨P', k', by rw [h8, b1]; rfl, rfl, b3, by rw [h16 1 (by omega)]; exact a6, a7⟩
        · first | (exfalso; omega) | exact Or.inr ⟨by rw [h8, b1]; rfl, rfl, b3⟩
