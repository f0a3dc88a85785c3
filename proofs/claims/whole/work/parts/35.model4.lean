/-! ===== the reference's row ===== -/
def mRow (σ : zM) (line : List Int) (np : Nat) : Prop := σ 57 28 = line.length ∧ line.length ≤ 10 ∧ (∀ (k : Nat) (x : Int), line[k]? = some x → σ 74 k = x) ∧ (∀ x ∈ line, 0 ≤ x ∧ x < np) ∧ line.Nodup
def mEnd (σ : zM) (how whn : Int → Int) (np : Nat) : Prop := ∀ i : Int, 0 ≤ i → i < np → (σ 75 i = how i ∧ σ 76 i = whn i) ∧ 0 ≤ how i ∧ how i ≤ 3 ∧ 0 ≤ whn i ∧ whn i ≤ 200
theorem c_X8_end (σ : zM) (i as t : Int) (hi : 0 ≤ i ∧ i < 10) : zCv mX8_end (fun u => [zr u 57, zi i, zi as, zi t]) σ (fun σ' => σ' = zup (zup σ 75 i as) 76 i t) := by
  refine zCv_mk (own := RX8) rfl (by decide +kernel) (fun w => [some (zr w 57), some (zi i), some (zi as), some (zi t)]) (fun _ => rfl) (fun _ => Nat.le_of_ble_eq_true rfl) ?_
  intro Γ h hr
  refine z_raload_n h dX8_end_0 rfl ?_
  refine z_getr h dX8_end_1 fX8_61 L57 rfl ?_
  refine z_iload_n h dX8_end_4 rfl ?_
  refine z_iload_n h dX8_end_5 rfl ?_
  refine z_iast h dX8_end_6 L75 (by decide) (by omega) ?_
  refine z_raload_n h dX8_end_7 rfl ?_
  refine z_getr h dX8_end_8 fX8_64 L57 rfl ?_
  refine z_iload_n h dX8_end_11 rfl ?_
  refine z_iload_n h dX8_end_12 rfl ?_
  refine z_iast h dX8_end_13 L76 (by decide) (by omega) ?_
  refine z_irV h hr dX8_end_14 ?_
  rfl
theorem c_X8_timeOf (σ : zM) (s : zS) (np : Nat) (hE : mEnd σ s.2.1 s.2.2.1 np) (i : Int) (hnp : np ≤ 10) (hi : 0 ≤ i ∧ i < np) : zCi mX8_timeOf (fun u => [zr u 57, zi i]) σ (fun r σ' => r = zTm s i ∧ (0 ≤ r ∧ r ≤ 200) ∧ σ' = σ) := by
  refine zCi_mk (own := RX8) rfl (by decide +kernel) (fun w => [some (zr w 57), some (zi i)]) (fun _ => rfl) (fun _ => Nat.le_of_ble_eq_true rfl) ?_
  intro Γ h hr
  have h1 := hE i hi.1 hi.2
  refine z_raload_n h dX8_timeOf_0 rfl ?_
  refine z_getr h dX8_timeOf_1 fX8_61 L57 rfl ?_
  refine z_iload_n h dX8_timeOf_4 rfl ?_
  refine z_iald h dX8_timeOf_5 L75 (by decide) (by omega) ?_
  refine z_if_ne h dX8_timeOf_6 (by omega) (fun b6 => ?_) (fun b6 => ?_)
  · refine z_sipush h dX8_timeOf_18 (by decide) ?_
    refine z_irI h hr dX8_timeOf_21 ?_
    unfold zTm
    first
      | (rw [if_pos (by omega)]; exact ⟨h1.1.2, by omega, rfl⟩)
      | (rw [if_neg (by omega)]; exact ⟨rfl, by omega, rfl⟩)
  · refine z_raload_n h dX8_timeOf_9 rfl ?_
    refine z_getr h dX8_timeOf_10 fX8_64 L57 rfl ?_
    refine z_iload_n h dX8_timeOf_13 rfl ?_
    refine z_iald h dX8_timeOf_14 L76 (by decide) (by omega) ?_
    refine z_goto h dX8_timeOf_15 ?_
    refine z_irI h hr dX8_timeOf_21 ?_
    unfold zTm
    first
      | (rw [if_pos (by omega)]; exact ⟨h1.1.2, by omega, rfl⟩)
      | (rw [if_neg (by omega)]; exact ⟨rfl, by omega, rfl⟩)
theorem c_X8_isInLine (σ : zM) (line : List Int) (np : Nat) (hnp : np ≤ 10) (hR : mRow σ line np) (i : Int) (hi : zok i) : zCi mX8_isInLine (fun u => [zr u 57, zi i]) σ (fun r σ' => ((r = 1 ∧ i ∈ line) ∨ (r = 0 ∧ i ∉ line)) ∧ σ' = σ) := by
  refine zCi_mk (own := RX8) rfl (by decide +kernel) (fun w => [some (zr w 57), some (zi i), none, none]) (fun _ => rfl) (fun _ => Nat.le_of_ble_eq_true rfl) ?_
  intro Γ h hr
  obtain ⟨r1, r2, r3, r4, r5⟩ := hR
  unfold zok at hi
  have L : ∀ (n k : Nat) (v : Int), k + n = line.length → (v = 0 ∨ v = 1) → (v = 1 ↔ i ∈ line.take k) → zV Γ σ 4 [some (zr (zw Γ) 57), some (zi i), some (zi v), some (zi k)] [] := by
    intro n
    induction n with
    | zero =>
      intro k v h1 h2 h3
      rw [List.take_of_length_le (by omega)] at h3
      refine z_iload_n h dX8_isInLine_4 rfl ?_
      refine z_raload_n h dX8_isInLine_5 rfl ?_
      refine y_get 28 h dX8_isInLine_6 fX8_145 L57 rfl rfl ?_
      refine z_icmp_ge h dX8_isInLine_9 (by omega) (by omega) (fun b9 => ?_) (fun b9 => by exfalso; omega)
      refine z_iload_n h dX8_isInLine_38 rfl ?_
      refine z_irZ h hr dX8_isInLine_39 (by first | decide | omega | simp_all) ?_
      refine ⟨?_, rfl⟩
      rcases h2 with rfl | rfl
      · exact Or.inr ⟨rfl, fun z => by have := h3.mpr z; omega⟩
      · exact Or.inl ⟨rfl, h3.mp rfl⟩
    | succ n ih =>
      intro k v h1 h2 h3
      have hlt : k < line.length := by omega
      have hx := List.getElem?_eq_getElem hlt
      obtain ⟨x, hxe⟩ : ∃ x, x = line[k] := ⟨_, rfl⟩
      rw [← hxe] at hx
      have g1 := r3 k x hx
      have g2 := r4 x (List.mem_of_getElem? hx)
      have g3 : i ∈ line.take (k + 1) ↔ (i ∈ line.take k ∨ x = i) := by
        rw [List.take_succ, hx, List.mem_append]
        simp [eq_comm]
      refine z_iload_n h dX8_isInLine_4 rfl ?_
      refine z_raload_n h dX8_isInLine_5 rfl ?_
      refine y_get 28 h dX8_isInLine_6 fX8_145 L57 rfl rfl ?_
      refine z_icmp_ge h dX8_isInLine_9 (by omega) (by omega) (fun b9 => by exfalso; omega) (fun b9 => ?_)
      refine z_iload_n h dX8_isInLine_12 rfl ?_
      refine z_if_ne h dX8_isInLine_13 (by omega) (fun b13 => ?_) (fun b13 => ?_)
      · refine z_iconst h dX8_isInLine_26 ?_
        refine z_goto h dX8_isInLine_27 ?_
        refine z_ist1_n h dX8_isInLine_31 (by decide) (zst1_2 rfl) ?_
        refine z_iinc h dX8_isInLine_32 (by decide) rfl (zst1_3 rfl) ?_
        refine z_goto h dX8_isInLine_35 ?_
        rw [show (k : Int) + 1 = ((k + 1 : Nat) : Int) by omega]
        first
          | exact ih (k + 1) 1 (by omega) (Or.inr rfl) ⟨fun _ => g3.mpr (Or.inl (h3.mp (by omega))), fun _ => rfl⟩
          | exact ih (k + 1) 1 (by omega) (Or.inr rfl) ⟨fun _ => g3.mpr (Or.inr (by omega)), fun _ => rfl⟩
          | exact ih (k + 1) 0 (by omega) (Or.inl rfl) ⟨fun z => by omega, fun z => by rcases g3.mp z with z | z; (have := h3.mpr z; omega); omega⟩
      · refine z_raload_n h dX8_isInLine_16 rfl ?_
        refine z_getr h dX8_isInLine_17 fX8_58 L57 rfl ?_
        refine z_iload_n h dX8_isInLine_20 rfl ?_
        refine z_iald h dX8_isInLine_21 L74 (by decide) (by omega) ?_
        refine z_iload_n h dX8_isInLine_22 rfl ?_
        refine z_icmp_ne h dX8_isInLine_23 (by omega) (by omega) (fun b23 => ?_) (fun b23 => ?_)
        · refine z_iconst h dX8_isInLine_30 ?_
          refine z_ist1_n h dX8_isInLine_31 (by decide) (zst1_2 rfl) ?_
          refine z_iinc h dX8_isInLine_32 (by decide) rfl (zst1_3 rfl) ?_
          refine z_goto h dX8_isInLine_35 ?_
          rw [show (k : Int) + 1 = ((k + 1 : Nat) : Int) by omega]
          first
            | exact ih (k + 1) 1 (by omega) (Or.inr rfl) ⟨fun _ => g3.mpr (Or.inl (h3.mp (by omega))), fun _ => rfl⟩
            | exact ih (k + 1) 1 (by omega) (Or.inr rfl) ⟨fun _ => g3.mpr (Or.inr (by omega)), fun _ => rfl⟩
            | exact ih (k + 1) 0 (by omega) (Or.inl rfl) ⟨fun z => by omega, fun z => by rcases g3.mp z with z | z; (have := h3.mpr z; omega); omega⟩
        · refine z_iconst h dX8_isInLine_26 ?_
          refine z_goto h dX8_isInLine_27 ?_
          refine z_ist1_n h dX8_isInLine_31 (by decide) (zst1_2 rfl) ?_
          refine z_iinc h dX8_isInLine_32 (by decide) rfl (zst1_3 rfl) ?_
          refine z_goto h dX8_isInLine_35 ?_
          rw [show (k : Int) + 1 = ((k + 1 : Nat) : Int) by omega]
          first
            | exact ih (k + 1) 1 (by omega) (Or.inr rfl) ⟨fun _ => g3.mpr (Or.inl (h3.mp (by omega))), fun _ => rfl⟩
            | exact ih (k + 1) 1 (by omega) (Or.inr rfl) ⟨fun _ => g3.mpr (Or.inr (by omega)), fun _ => rfl⟩
            | exact ih (k + 1) 0 (by omega) (Or.inl rfl) ⟨fun z => by omega, fun z => by rcases g3.mp z with z | z; (have := h3.mpr z; omega); omega⟩
  refine z_iconst h dX8_isInLine_0 ?_
  refine z_ist1_n h dX8_isInLine_1 (by decide) (zst1_2 rfl) ?_
  refine z_iconst h dX8_isInLine_2 ?_
  refine z_ist1_n h dX8_isInLine_3 (by decide) (zst1_3 rfl) ?_
  exact L line.length 0 0 (by omega) (Or.inl rfl) (by simp)
theorem erase_get {line : List Int} {k j : Nat} {x : Int} (h : (line.eraseIdx k)[j]? = some x) : (j < k ∧ line[j]? = some x) ∨ (k ≤ j ∧ line[j + 1]? = some x) := by
  rw [List.getElem?_eraseIdx] at h
  split at h
  · exact Or.inl ⟨by assumption, h⟩
  · exact Or.inr ⟨by omega, h⟩
theorem c_X8_takeOut (σ : zM) (line : List Int) (np : Nat) (hR : mRow σ line np) (k : Nat) (hk : k < line.length) : zCv mX8_takeOut (fun u => [zr u 57, zi k]) σ (fun σ' => (∀ c, c ≠ 57 → c ≠ 74 → ∀ i, σ' c i = σ c i) ∧ (∀ i : Int, i ≠ 28 → σ' 57 i = σ 57 i) ∧ mRow σ' (line.eraseIdx k) np) := by
  refine zCv_mk (own := RX8) rfl (by decide +kernel) (fun w => [some (zr w 57), some (zi k), none]) (fun _ => rfl) (fun _ => Nat.le_of_ble_eq_true rfl) ?_
  intro Γ h hr
  obtain ⟨r1, r2, r3, r4, r5⟩ := hR
  have el := List.length_eraseIdx_of_lt hk
  have L : ∀ (n j : Nat) (σ1 : zM), j + n = line.length - 1 → k ≤ j → (∀ c, c ≠ 57 → c ≠ 74 → ∀ i, σ1 c i = σ c i) → (∀ i : Int, i ≠ 28 → σ1 57 i = σ 57 i) → σ1 57 28 = (line.length : Int) - 1 → (∀ p : Int, p < k ∨ (j : Int) ≤ p → σ1 74 p = σ 74 p) → (∀ p : Int, (k : Int) ≤ p → p < j → σ1 74 p = σ 74 (p + 1)) → zV Γ σ1 12 [some (zr (zw Γ) 57), some (zi k), some (zi j)] [] := by
    intro n
    induction n with
    | zero =>
      intro j σ1 h1 h2 h3 h4 h5 h6 h7
      refine z_iload_n h dX8_takeOut_12 rfl ?_
      refine z_raload_n h dX8_takeOut_13 rfl ?_
      refine y_get 28 h dX8_takeOut_14 fX8_145 L57 rfl rfl ?_
      refine z_icmp_ge h dX8_takeOut_17 (by omega) (by omega) (fun b17 => ?_) (fun b17 => by exfalso; omega)
      refine z_irV h hr dX8_takeOut_40 ?_
      refine ⟨h3, h4, by rw [h5, el]; omega, by omega, fun p x hp => ?_, fun x hx => r4 x (List.mem_of_mem_eraseIdx hx), r5.eraseIdx k⟩
      have hpl := (List.getElem?_eq_some_iff.mp hp).1
      rcases erase_get hp with ⟨z1, z2⟩ | ⟨z1, z2⟩
      · rw [h6 p (by omega)]; exact r3 p x z2
      · have := r3 _ x z2
        rw [h7 p (by omega) (by omega), ← this]
        congr 1
    | succ n ih =>
      intro j σ1 h1 h2 h3 h4 h5 h6 h7
      refine z_iload_n h dX8_takeOut_12 rfl ?_
      refine z_raload_n h dX8_takeOut_13 rfl ?_
      refine y_get 28 h dX8_takeOut_14 fX8_145 L57 rfl rfl ?_
      refine z_icmp_ge h dX8_takeOut_17 (by omega) (by omega) (fun b17 => by exfalso; omega) (fun b17 => ?_)
      refine z_raload_n h dX8_takeOut_20 rfl ?_
      refine z_getr h dX8_takeOut_21 fX8_58 L57 rfl ?_
      refine z_iload_n h dX8_takeOut_24 rfl ?_
      refine z_raload_n h dX8_takeOut_25 rfl ?_
      refine z_getr h dX8_takeOut_26 fX8_58 L57 rfl ?_
      refine z_iload_n h dX8_takeOut_29 rfl ?_
      refine z_iconst h dX8_takeOut_30 ?_
      refine z_iadd h dX8_takeOut_31 ?_
      refine z_iald h dX8_takeOut_32 L74 (by decide) (by omega) ?_
      refine z_iast h dX8_takeOut_33 L74 (by decide) (by omega) ?_
      refine z_iinc h dX8_takeOut_34 (by decide) rfl (zst1_2 rfl) ?_
      refine z_goto h dX8_takeOut_37 ?_
      rw [show (j : Int) + 1 = ((j + 1 : Nat) : Int) by omega]
      refine ih (j + 1) _ (by omega) (by omega) (fun c c1 c2 i => by rw [zup_ne c2]; exact h3 c c1 c2 i) (fun i hi => by rw [zup_ne (by omega)]; exact h4 i hi) (by rw [zup_ne (by omega)]; exact h5) (fun p hp => by rw [zup_nei (by omega)]; exact h6 p (by omega)) (fun p p1 p2 => ?_)
      by_cases e : p = j
      · subst e
        rw [zup_eq, h6 _ (by omega)]
        congr 1
      · rw [zup_nei e]; exact h7 p p1 (by omega)
  refine z_raload_n h dX8_takeOut_0 rfl ?_
  refine z_dup h dX8_takeOut_1 rfl ?_
  refine y_get 28 h dX8_takeOut_2 fX8_145 L57 rfl rfl ?_
  refine z_iconst h dX8_takeOut_5 ?_
  refine z_isub h dX8_takeOut_6 ?_
  refine y_put 28 h dX8_takeOut_7 fX8_145 pX8_28 L57 rfl rfl ?_
  refine z_iload_n h dX8_takeOut_10 rfl ?_
  refine z_ist1_n h dX8_takeOut_11 (by decide) (zst1_2 rfl) ?_
  exact L (line.length - 1 - k) k _ (by omega) (Nat.le_refl _) (fun c c1 c2 i => zup_ne c1) (fun i hi => zup_nei hi) (by rw [zup_eq, r1]) (fun p _ => zup_ne (by omega)) (fun p a b => by omega)
theorem c_X8_putIn (σ : zM) (line : List Int) (np : Nat) (i law : Int) (a : Nat) (ha : a = if law = 1 then line.length / 2 else line.length) (hR : mRow σ line np) (hi : 0 ≤ i ∧ i < np) (hn : i ∉ line) (hl : line.length < 10) : zCv mX8_putIn (fun u => [zr u 57, zi i, zi a]) σ (fun σ' => (∀ c, c ≠ 57 → c ≠ 74 → ∀ j, σ' c j = σ c j) ∧ (∀ j : Int, j ≠ 28 → σ' 57 j = σ 57 j) ∧ mRow σ' (zJoin law line i) np) := by
  refine zCv_mk (own := RX8) rfl (by decide +kernel) (fun w => [some (zr w 57), some (zi i), some (zi a), none]) (fun _ => rfl) (fun _ => Nat.le_of_ble_eq_true rfl) ?_
  intro Γ h hr
  obtain ⟨r1, r2, r3, r4, r5⟩ := hR
  have hal : a ≤ line.length := by rw [ha]; split <;> omega
  have L : ∀ (n k : Nat) (σ1 : zM), k = a + n → k ≤ line.length → (∀ c, c ≠ 74 → ∀ j, σ1 c j = σ c j) → (∀ j : Int, j < k → σ1 74 j = σ 74 j) → (∀ j : Int, k ≤ j → j < line.length → σ1 74 (j + 1) = σ 74 j) → zV Γ σ1 5 [some (zr (zw Γ) 57), some (zi i), some (zi a), some (zi k)] [] := by
    intro n
    induction n with
    | zero =>
      intro k σ1 h1 h2 h3 h4 h5
      refine z_iload_n h dX8_putIn_5 rfl ?_
      refine z_iload_n h dX8_putIn_6 rfl ?_
      refine z_icmp_le h dX8_putIn_7 (by omega) (by omega) (fun b7 => ?_) (fun b7 => by exfalso; omega)
      refine z_raload_n h dX8_putIn_30 rfl ?_
      refine z_getr h dX8_putIn_31 fX8_58 L57 rfl ?_
      refine z_iload_n h dX8_putIn_34 rfl ?_
      refine z_iload_n h dX8_putIn_35 rfl ?_
      refine z_iast h dX8_putIn_36 L74 (by decide) (by omega) ?_
      refine z_raload_n h dX8_putIn_37 rfl ?_
      refine z_dup h dX8_putIn_38 rfl ?_
      refine y_get 28 h dX8_putIn_39 fX8_145 L57 rfl rfl ?_
      try simp (disch := omega) only [zup_eq, zup_ne, zup_nei]
      refine z_iconst h dX8_putIn_42 ?_
      refine z_iadd h dX8_putIn_43 ?_
      refine y_put 28 h dX8_putIn_44 fX8_145 pX8_28 L57 rfl rfl ?_
      refine z_irV h hr dX8_putIn_47 ?_
      refine ⟨fun c c1 c2 j => ?_, fun j hj => ?_, ⟨?_, ?_, fun j x hj => ?_, fun x hx => ?_, ?_⟩⟩
      · simp (disch := omega) only [zup_ne]; exact h3 c c2 j
      · simp (disch := omega) only [zup_nei, zup_ne]; exact h3 57 (by omega) j
      · simp (disch := omega) only [zup_eq]; rw [h3 57 (by omega), r1, (zJoin_perm law line i).length_eq]; simp
      · rw [(zJoin_perm law line i).length_eq]; simp; omega
      · simp (disch := omega) only [zup_ne]
        rcases zJoin_get ha hj with ⟨z1, z2⟩ | ⟨z1, z2⟩ | ⟨z1, z2⟩
        · rw [zup_nei (by omega), h4 j (by omega)]; exact r3 j x z2
        · rw [zup_eqi (by omega), z2]
        · have hlt := (List.getElem?_eq_some_iff.mp z2).1
          rw [zup_nei (by omega)]
          have := h5 ((j - 1 : Nat) : Int) (by omega) (by omega)
          rw [show ((j - 1 : Nat) : Int) + 1 = j by omega] at this
          rw [this]
          exact r3 _ x z2
      · rcases List.mem_cons.mp ((zJoin_perm law line i).mem_iff.mp hx) with rfl | hx
        · exact hi
        · exact r4 x hx
      · exact (zJoin_perm law line i).nodup_iff.mpr (List.nodup_cons.mpr ⟨hn, r5⟩)
    | succ n ih =>
      intro k σ1 h1 h2 h3 h4 h5
      refine z_iload_n h dX8_putIn_5 rfl ?_
      refine z_iload_n h dX8_putIn_6 rfl ?_
      refine z_icmp_le h dX8_putIn_7 (by omega) (by omega) (fun b7 => by exfalso; omega) (fun b7 => ?_)
      refine z_raload_n h dX8_putIn_10 rfl ?_
      refine z_getr h dX8_putIn_11 fX8_58 L57 rfl ?_
      refine z_iload_n h dX8_putIn_14 rfl ?_
      refine z_raload_n h dX8_putIn_15 rfl ?_
      refine z_getr h dX8_putIn_16 fX8_58 L57 rfl ?_
      refine z_iload_n h dX8_putIn_19 rfl ?_
      refine z_iconst h dX8_putIn_20 ?_
      refine z_isub h dX8_putIn_21 ?_
      refine z_iald h dX8_putIn_22 L74 (by decide) (by omega) ?_
      refine z_iast h dX8_putIn_23 L74 (by decide) (by omega) ?_
      refine z_iinc h dX8_putIn_24 (by decide) rfl (zst1_3 rfl) ?_
      refine z_goto h dX8_putIn_27 ?_
      rw [show (k : Int) + -1 = ((k - 1 : Nat) : Int) by omega]
      refine ih (k - 1) _ (by omega) (by omega) (fun c hc j => by rw [zup_ne hc]; exact h3 c hc j) (fun j hj => by rw [zup_nei (by omega)]; exact h4 j (by omega)) (fun j hj1 hj2 => ?_)
      by_cases e : j = (k : Int) - 1
      · rw [zup_eqi (by omega), h4 _ (by omega), e]
      · rw [zup_nei (by omega)]; exact h5 j (by omega) hj2
  refine z_raload_n h dX8_putIn_0 rfl ?_
  refine y_get 28 h dX8_putIn_1 fX8_145 L57 rfl rfl ?_
  rw [r1]
  refine z_ist1_n h dX8_putIn_4 (by decide) (zst1_3 rfl) ?_
  exact L (line.length - a) line.length σ (by omega) (Nat.le_refl _) (fun _ _ _ => rfl) (fun _ _ => rfl) (fun j _ _ => by omega)
theorem c_X8_turnLine (σ : zM) (line : List Int) (np : Nat) (law : Int) (hlaw : σ 57 25 = law ∧ 0 ≤ law ∧ law ≤ 3) (hR : mRow σ line np) : zCv mX8_turnLine (fun u => [zr u 57]) σ (fun σ' => (∀ c, c ≠ 74 → ∀ i, σ' c i = σ c i) ∧ mRow σ' (zTurn law line) np) := by
  refine zCv_mk (own := RX8) rfl (by decide +kernel) (fun w => [some (zr w 57), none, none, none]) (fun _ => rfl) (fun _ => Nat.le_of_ble_eq_true rfl) ?_
  intro Γ h hr
  obtain ⟨r1, r2, r3, r4, r5⟩ := hR
  have L : ∀ (n : Nat) (a b a0 : Int) (σ1 : zM) (l4 : Option Value), (b - a).toNat = n → (a0 = if law = 2 then 3 else 0) → a + b = a0 + line.length - 1 → a0 ≤ a → a ≤ 20 → -20 ≤ b → b < line.length → (∀ c, c ≠ 74 → ∀ i, σ1 c i = σ c i) → (∀ j : Int, (j < a0 ∨ (a ≤ j ∧ j ≤ b)) → σ1 74 j = σ 74 j) → (∀ j : Int, a0 ≤ j → j < line.length → (j < a ∨ b < j) → σ1 74 j = σ 74 (a0 + line.length - 1 - j)) → zV Γ σ1 21 [some (zr (zw Γ) 57), some (zi a), some (zi b), l4] [] := by
    intro n
    induction n using Nat.strongRecOn with
    | _ n ih =>
      intro a b a0 σ1 l4 h1 ha0 h2 h3 h4 h5 h6 h7 h8 h9
      refine z_iload_n h dX8_turnLine_21 rfl ?_
      refine z_iload_n h dX8_turnLine_22 rfl ?_
      refine z_icmp_ge h dX8_turnLine_23 (by omega) (by omega) (fun b23 => ?_) (fun b23 => ?_)
      · refine z_irV h hr dX8_turnLine_61 ?_
        have e0 : (if law = 2 then 3 else 0 : Nat) = a0.toNat := by rw [ha0]; split <;> rfl
        refine ⟨h7, ?_, ?_, fun k x hk => ?_, fun x hx => ?_, ?_⟩
        · rw [h7 57 (by omega), zTurn_len]; exact r1
        · rw [zTurn_len]; exact r2
        · rcases zTurn_get e0.symm hk with ⟨z1, z2⟩ | ⟨z1, z2, z3⟩
          · rw [h8 k (by omega)]; exact r3 k x z2
          · have hz := r3 _ x z3
            by_cases e : (k : Int) < a ∨ b < k
            · rw [h9 k (by omega) (by omega) e, ← hz]
              congr 1
              omega
            · rw [h8 k (by omega), ← hz]
              congr 1
              omega
        · exact r4 x (zTurn_mem.mp hx)
        · exact (zTurn_perm law line).nodup_iff.mpr r5
      · refine z_raload_n h dX8_turnLine_26 rfl ?_
        refine z_getr h dX8_turnLine_27 fX8_58 L57 rfl ?_
        refine z_iload_n h dX8_turnLine_30 rfl ?_
        refine z_iald h dX8_turnLine_31 L74 (by decide) (by omega) ?_
        refine z_ist1_n h dX8_turnLine_32 (by decide) (zst1_3 rfl) ?_
        refine z_raload_n h dX8_turnLine_33 rfl ?_
        refine z_getr h dX8_turnLine_34 fX8_58 L57 rfl ?_
        refine z_iload_n h dX8_turnLine_37 rfl ?_
        refine z_raload_n h dX8_turnLine_38 rfl ?_
        refine z_getr h dX8_turnLine_39 fX8_58 L57 rfl ?_
        refine z_iload_n h dX8_turnLine_42 rfl ?_
        refine z_iald h dX8_turnLine_43 L74 (by decide) (by omega) ?_
        refine z_iast h dX8_turnLine_44 L74 (by decide) (by omega) ?_
        refine z_raload_n h dX8_turnLine_45 rfl ?_
        refine z_getr h dX8_turnLine_46 fX8_58 L57 rfl ?_
        refine z_iload_n h dX8_turnLine_49 rfl ?_
        refine z_iload_n h dX8_turnLine_50 rfl ?_
        refine z_iast h dX8_turnLine_51 L74 (by decide) (by omega) ?_
        refine z_iinc h dX8_turnLine_52 (by decide) rfl (zst1_1 rfl) ?_
        refine z_iinc h dX8_turnLine_55 (by decide) rfl (zst1_2 rfl) ?_
        refine z_goto h dX8_turnLine_58 ?_
        refine ih _ (by omega) _ _ a0 _ _ rfl ha0 (by omega) (by omega) (by omega) (by omega) (by omega) (fun c hcc i => by simp (disch := omega) only [zup_ne]; exact h7 c hcc i) (fun j hj => ?_) (fun j hj1 hj2 hj3 => ?_)
        · simp (disch := omega) only [zup_nei]
          exact h8 j (by omega)
        · by_cases e1 : j = b
          · subst e1
            rw [zup_eq, h8 a (by omega)]
            congr 1
            omega
          · by_cases e2 : j = a
            · subst e2
              rw [zup_nei (by omega), zup_eq, h8 b (by omega)]
              congr 1
              omega
            · simp (disch := omega) only [zup_nei]
              exact h9 j hj1 hj2 (by omega)
  refine z_raload_n h dX8_turnLine_0 rfl ?_
  refine y_get 25 h dX8_turnLine_1 fX8_139 L57 rfl rfl ?_
  refine z_iconst h dX8_turnLine_4 ?_
  refine z_icmp_ne h dX8_turnLine_5 (by omega) (by omega) (fun b5 => ?_) (fun b5 => ?_)
  · refine z_iconst h dX8_turnLine_12 ?_
    refine z_ist1_n h dX8_turnLine_13 (by decide) (zst1_1 rfl) ?_
    refine z_raload_n h dX8_turnLine_14 rfl ?_
    refine y_get 28 h dX8_turnLine_15 fX8_145 L57 rfl rfl ?_
    refine z_iconst h dX8_turnLine_18 ?_
    refine z_isub h dX8_turnLine_19 ?_
    refine z_ist1_n h dX8_turnLine_20 (by decide) (zst1_2 rfl) ?_
    first
      | exact L _ 3 (σ 57 28 - 1) 3 σ none rfl (by rw [if_pos (by omega)]) (by omega) (by omega) (by omega) (by omega) (by omega) (fun _ _ _ => rfl) (fun _ _ => rfl) (fun j hj1 hj2 hj3 => by congr 1; omega)
      | exact L _ 0 (σ 57 28 - 1) 0 σ none rfl (by rw [if_neg (by omega)]) (by omega) (by omega) (by omega) (by omega) (by omega) (fun _ _ _ => rfl) (fun _ _ => rfl) (fun j hj1 hj2 hj3 => by omega)
  · refine z_iconst h dX8_turnLine_8 ?_
    refine z_goto h dX8_turnLine_9 ?_
    refine z_ist1_n h dX8_turnLine_13 (by decide) (zst1_1 rfl) ?_
    refine z_raload_n h dX8_turnLine_14 rfl ?_
    refine y_get 28 h dX8_turnLine_15 fX8_145 L57 rfl rfl ?_
    refine z_iconst h dX8_turnLine_18 ?_
    refine z_isub h dX8_turnLine_19 ?_
    refine z_ist1_n h dX8_turnLine_20 (by decide) (zst1_2 rfl) ?_
    first
      | exact L _ 3 (σ 57 28 - 1) 3 σ none rfl (by rw [if_pos (by omega)]) (by omega) (by omega) (by omega) (by omega) (by omega) (fun _ _ _ => rfl) (fun _ _ => rfl) (fun j hj1 hj2 hj3 => by congr 1; omega)
      | exact L _ 0 (σ 57 28 - 1) 0 σ none rfl (by rw [if_neg (by omega)]) (by omega) (by omega) (by omega) (by omega) (by omega) (fun _ _ _ => rfl) (fun _ _ => rfl) (fun j hj1 hj2 hj3 => by omega)
