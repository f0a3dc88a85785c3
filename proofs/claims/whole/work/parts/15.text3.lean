theorem c_X6_append (σ : zM) (tx : List Int) (x : Int) (hx : cText σ tx) (hl : tx.length < 300) (hb : 0 ≤ x ∧ x ≤ 255) : zCv mX6_append (fun w => [zr w 1, zi (zsb x)]) σ (fun σ' => cText σ' (tx ++ [x]) ∧ zfr 1 2 σ σ') := by
  refine zCv_mk (own := RX6) rfl (by decide +kernel) (fun w => [some (zr w 1), some (zi (zsb x))]) (fun _ => rfl) (fun _ => Nat.le_of_ble_eq_true rfl) ?_
  intro Γ h hr
  have h1 := hx.1
  have h2 : -128 ≤ zsb x ∧ zsb x < 128 := by unfold zsb; split <;> omega
  refine z_raload_n h dX6_append_0 rfl ?_
  refine y_get 2 h dX6_append_1 fX6_19 L1 rfl rfl ?_
  refine z_raload_n h dX6_append_4 rfl ?_
  refine z_getr h dX6_append_5 fX6_9 L1 rfl ?_
  refine y_alen 300 h dX6_append_8 L2 (by decide) rfl ?_
  refine z_icmp_ge h dX6_append_9 (by omega) (by omega) (fun b9 => by exfalso; omega) (fun b9 => ?_)
  refine z_raload_n h dX6_append_12 rfl ?_
  refine z_getr h dX6_append_13 fX6_9 L1 rfl ?_
  refine z_raload_n h dX6_append_16 rfl ?_
  refine y_get 2 h dX6_append_17 fX6_19 L1 rfl rfl ?_
  refine z_iload_n h dX6_append_20 rfl ?_
  refine z_bast h dX6_append_21 L2 (by decide) (by omega) (by omega) ?_
  refine z_raload_n h dX6_append_22 rfl ?_
  refine z_dup h dX6_append_23 rfl ?_
  refine y_get 2 h dX6_append_24 fX6_19 L1 rfl rfl ?_
  try simp (disch := omega) only [zup_eq, zup_ne, zup_nei]
  refine z_iconst h dX6_append_27 ?_
  refine z_iadd h dX6_append_28 ?_
  refine y_put 2 h dX6_append_29 fX6_19 pX6_2 L1 rfl rfl ?_
  refine z_irV h hr dX6_append_32 ?_
  refine ⟨⟨by rw [zup_eq, h1]; simp, by simp; omega, fun k y hk => ?_, fun k a b => ?_⟩, zfr_up (zfr_up zfr_rf (by omega) (by omega)) (by omega) (by omega)⟩
  · rw [zup_ne (by omega)]
    by_cases e : k < tx.length
    · rw [List.getElem?_append_left e] at hk
      rw [zup_nei (by omega)]
      exact hx.2.2.1 k y hk
    · have e2 := (List.getElem?_eq_some_iff.mp hk).1
      simp at e2
      have e3 : k = tx.length := by omega
      subst e3
      simp at hk
      subst hk
      rw [zup_eqi h1.symm]
      exact ⟨hb.1, hb.2, rfl⟩
  · rw [zup_ne (by omega), zup_ne (by omega)]
    exact hx.2.2.2 k a b
theorem c_X6_readInto (σ : zM) (tx : List Int) (π : Nat) (hp : zPl π) (l0 : List (Int × Int)) (hl0 : cCry σ (π + 5) l0) (hx : cText σ tx) : zCi mX6_readInto (fun w => [zr w 1, zr w π]) σ (fun r σ' => cText σ' tx ∧ (∀ c, (c < 1 ∨ 3 < c) → (c < π ∨ π + 8 < c) → ∀ i, σ' c i = σ c i) ∧ r = (pAll tx 300 0 zP0).1 ∧ (r = -4 → cPlan σ' π (pAll tx 300 0 zP0).2) ∧ ∃ l, cCry σ' (π + 5) l) := by
  refine zCi_mk (own := RX6) rfl (by decide +kernel) (fun w => [some (zr w 1), some (zr w π), none, none]) (fun _ => rfl) (fun _ => Nat.le_of_ble_eq_true rfl) ?_
  intro Γ h hr
  have hpi : 39 ≤ π := by unfold zPl at hp; omega
  have L : ∀ (f : Nat) (σ1 : zM) (k : Nat) (P1 : zP), f ≤ 300 → k ≤ 301 → cPlan σ1 π P1 → cText σ1 tx → (∀ c, (c < 1 ∨ 3 < c) → (c < π ∨ π + 8 < c) → ∀ i, σ1 c i = σ c i) → pAll tx 300 0 zP0 = pAll tx f k P1 → zV Γ σ1 8 [some (zr (zw Γ) 1), some (zr (zw Γ) π), some (zi k), some (zi (300 - f))] [] := by
    intro f
    induction f with
    | zero =>
      intro σ1 k P1 hf hk h1 h2 h3 h4
      refine z_iload_n h dX6_readInto_8 rfl ?_
      refine z_sipush h dX6_readInto_9 (by decide) ?_
      refine z_icmp_ge h dX6_readInto_12 (by omega) (by omega) (fun b12 => ?_) (fun b12 => by exfalso; omega)
      refine z_bipush h dX6_readInto_49 (by decide) ?_
      refine z_irI h hr dX6_readInto_51 ?_
      rw [h4]
      exact ⟨h2, h3, rfl, fun _ => h1, _, h1.2.2.2.1⟩
    | succ f ih =>
      intro σ1 k P1 hf hk h1 h2 h3 h4
      have g1 := h2.1
      have g2 := h2.2.1
      rw [show pAll tx (f + 1) k P1 = (if k < tx.length then (match pItem tx k P1 with
        | none => ((k : Int), P1)
        | some (P', k') => pAll tx f k' P') else (-4, P1)) from rfl] at h4
      refine z_iload_n h dX6_readInto_8 rfl ?_
      refine z_sipush h dX6_readInto_9 (by decide) ?_
      refine z_icmp_ge h dX6_readInto_12 (by omega) (by omega) (fun b12 => by exfalso; omega) (fun b12 => ?_)
      refine z_iload_n h dX6_readInto_15 rfl ?_
      refine z_raload_n h dX6_readInto_16 rfl ?_
      refine y_get 2 h dX6_readInto_17 fX6_19 L1 rfl rfl ?_
      refine z_icmp_ge h dX6_readInto_20 (by omega) (by omega) (fun b20 => ?_) (fun b20 => ?_)
      · refine z_bipush h dX6_readInto_49 (by decide) ?_
        refine z_irI h hr dX6_readInto_51 ?_
        rw [if_neg (by omega)] at h4
        rw [h4]
        exact ⟨h2, h3, rfl, fun _ => h1, _, h1.2.2.2.1⟩
      · refine z_raload_n h dX6_readInto_23 rfl ?_
        refine z_iload_n h dX6_readInto_24 rfl ?_
        refine y_put 3 h dX6_readInto_25 fX6_23 pX6_3 L1 rfl rfl ?_
        refine z_raload_n h dX6_readInto_28 rfl ?_
        refine z_raload_n h dX6_readInto_29 rfl ?_
        refine z_cVi1 h dX6_readInto_30 lX6_31 vX6_readItem rfl L1 (c_X6_readItem (zup σ1 1 3 k) tx k π hp P1 (cPlan_fr h1 (fun c a b i => zup_ne (by omega))) (cText_fr h2 (zup_nei (by omega)) (fun i => zup_ne (by omega)) (fun i a b => by rw [zup_ne (by omega)]; exact h2.2.2.2 i a b)) (zup_eq _ _ _ _) (by omega)) rfl (Nat.le_of_ble_eq_true rfl) (by decide) (fun v σ2 h5 => ?_)
        obtain ⟨h6, h7, h8⟩ := h5
        have h9 : ∀ c, (c < 1 ∨ 3 < c) → (c < π ∨ π + 8 < c) → ∀ i, σ2 c i = σ c i := fun c a b i => ((h7 c a b i).trans (zup_ne (by omega))).trans (h3 c a b i)
        have hv : v = 0 ∨ v = 1 := by rcases h8 with ⟨P', k', a1, rfl, a3⟩ | ⟨a1, rfl, a3⟩ <;> simp
        rw [if_pos (by omega)] at h4
        refine z_if_ne h dX6_readInto_33 (by omega) (fun b33 => ?_) (fun b33 => ?_)
        · rcases h8 with ⟨P', k', a1, -, a3, a4, a5⟩ | ⟨a1, rfl, a3⟩
          rotate_left
          · exfalso; omega
          rw [a1] at h4
          refine z_raload_n h dX6_readInto_38 rfl ?_
          refine y_get 3 h dX6_readInto_39 fX6_23 L1 rfl rfl ?_
          rw [a4]
          refine z_ist1_n h dX6_readInto_42 (by decide) (zst1_2 rfl) ?_
          refine z_iinc h dX6_readInto_43 (by decide) rfl (zst1_3 rfl) ?_
          refine z_goto h dX6_readInto_46 ?_
          rw [show (300 : Int) - ((f + 1 : Nat) : Int) + 1 = 300 - f by omega]
          exact ih σ2 k' P' (by omega) a5 a3 h6 h9 h4
        · refine z_iload_n h dX6_readInto_36 rfl ?_
          refine z_irI h hr dX6_readInto_37 ?_
          rcases h8 with ⟨P', k', a1, rfl, a3, a4, a5⟩ | ⟨a1, rfl, a3⟩
          · exfalso; omega
          · rw [a1] at h4
            rw [h4]
            exact ⟨h6, h9, rfl, fun z => by omega, a3⟩
  refine z_raload_n h dX6_readInto_0 rfl ?_
  refine z_cVv0 h dX6_readInto_1 lX6_26 vX4_clear rfl (zPl_o hp) (c_X4_clear σ π hp l0 hl0) rfl (Nat.le_of_ble_eq_true rfl) (by decide) (fun σ1 h1 => ?_)
  refine z_iconst h dX6_readInto_4 ?_
  refine z_ist1_n h dX6_readInto_5 (by decide) (zst1_2 rfl) ?_
  refine z_iconst h dX6_readInto_6 ?_
  refine z_ist1_n h dX6_readInto_7 (by decide) (zst1_3 rfl) ?_
  exact L 300 σ1 0 zP0 (Nat.le_refl _) (by omega) h1.1 (cText_fr hx (h1.2 1 (by omega) 2) (fun i => h1.2 2 (by omega) i) (fun i a b => by rw [h1.2 3 (by omega)]; exact hx.2.2.2 i a b)) (fun c a b i => h1.2 c b i) rfl
