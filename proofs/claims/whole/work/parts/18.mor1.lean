/-! ===== a morning: the leaves ===== -/
def pA (P : zP) (i : Int) : Int := (P.1.getD i.toNat (0, 0, 0)).1
def pC (P : zP) (i : Int) : Int := (P.1.getD i.toNat (0, 0, 0)).2.1
def pW (P : zP) (i : Int) : Int := (P.1.getD i.toNat (0, 0, 0)).2.2
theorem cPlan_at {σ : zM} {π : Nat} {P : zP} (h : cPlan σ π P) {i : Int} (hi : 0 ≤ i ∧ i < P.1.length) : (σ (π + 1) i = pA P i ∧ σ (π + 2) i = pC P i ∧ σ (π + 3) i = pW P i) ∧ 0 ≤ pA P i ∧ pA P i ≤ 99 ∧ (pC P i = 0 ∨ pC P i = 1) ∧ 1 ≤ pW P i ∧ pW P i ≤ 99 := by
  have hlt : i.toNat < P.1.length := by omega
  have e : P.1.getD i.toNat (0, 0, 0) = P.1[i.toNat] := by rw [List.getD_eq_getElem?_getD, List.getElem?_eq_getElem hlt]; rfl
  unfold pA pC pW
  rw [e]
  have h1 := h.2.1 i.toNat _ (List.getElem?_eq_getElem hlt)
  rw [Int.toNat_of_nonneg hi.1] at h1
  exact ⟨h1, h.2.2.2.2.2.2.1 _ (List.getElem_mem hlt)⟩
/-- THE ROW of the class -/
def cRow (σ : zM) (line : List Int) (np : Nat) : Prop := σ 5 10 = line.length ∧ line.length ≤ 10 ∧ (∀ (k : Nat) (x : Int), line[k]? = some x → σ 9 k = x) ∧ (∀ x ∈ line, 0 ≤ x ∧ x < np) ∧ line.Nodup ∧ (∀ i : Int, 0 ≤ i → i < 10 → σ 8 i = if i ∈ line then 1 else 0)
/-- how and when -/
def cEnd (σ : zM) (how whn : Int → Int) : Prop := ∀ i : Int, 0 ≤ i → i < 10 → (σ 6 i = how i ∧ σ 7 i = whn i) ∧ 0 ≤ how i ∧ how i ≤ 3 ∧ 0 ≤ whn i ∧ whn i ≤ 200
theorem c_X1_end (σ : zM) (i as t : Int) (hi : 0 ≤ i ∧ i < 10) : zCv mX1_end (fun w => [zr w 5, zi i, zi as, zi t]) σ (fun σ' => σ' = zup (zup (zup (zup σ 6 i as) 7 i t) 8 i 0) 5 12 (σ 5 12 + 1)) := by
  refine zCv_mk (own := RX1) rfl (by decide +kernel) (fun w => [some (zr w 5), some (zi i), some (zi as), some (zi t)]) (fun _ => rfl) (fun _ => Nat.le_of_ble_eq_true rfl) ?_
  intro Γ h hr
  refine z_raload_n h dX1_end_0 rfl ?_
  refine z_getr h dX1_end_1 fX1_9 L5 rfl ?_
  refine z_iload_n h dX1_end_4 rfl ?_
  refine z_iload_n h dX1_end_5 rfl ?_
  refine z_iast h dX1_end_6 L6 (by decide) (by omega) ?_
  refine z_raload_n h dX1_end_7 rfl ?_
  refine z_getr h dX1_end_8 fX1_15 L5 rfl ?_
  refine z_iload_n h dX1_end_11 rfl ?_
  refine z_iload_n h dX1_end_12 rfl ?_
  refine z_iast h dX1_end_13 L7 (by decide) (by omega) ?_
  refine z_raload_n h dX1_end_14 rfl ?_
  refine z_getr h dX1_end_15 fX1_18 L5 rfl ?_
  refine z_iload_n h dX1_end_18 rfl ?_
  refine z_iconst h dX1_end_19 ?_
  refine z_zast h dX1_end_20 L8 (by decide) (by omega) (by decide) ?_
  refine z_raload_n h dX1_end_21 rfl ?_
  refine z_dup h dX1_end_22 rfl ?_
  refine y_get 12 h dX1_end_23 fX1_56 L5 rfl rfl ?_
  try simp (disch := omega) only [zup_eq, zup_ne, zup_nei]
  refine z_iconst h dX1_end_26 ?_
  refine z_iadd h dX1_end_27 ?_
  refine y_put 12 h dX1_end_28 fX1_56 pX1_12 L5 rfl rfl ?_
  refine z_irV h hr dX1_end_31 ?_
  rfl
theorem c_X1_timeOf (σ : zM) (i : Int) (hi : 0 ≤ i ∧ i < 10) (hh : -2147483648 ≤ σ 6 i ∧ σ 6 i ≤ 2147483647) : zCi mX1_timeOf (fun w => [zr w 5, zi i]) σ (fun r σ' => r = (if σ 6 i = 0 then σ 7 i else 200) ∧ σ' = σ) := by
  refine zCi_mk (own := RX1) rfl (by decide +kernel) (fun w => [some (zr w 5), some (zi i)]) (fun _ => rfl) (fun _ => Nat.le_of_ble_eq_true rfl) ?_
  intro Γ h hr
  refine z_raload_n h dX1_timeOf_0 rfl ?_
  refine z_getr h dX1_timeOf_1 fX1_9 L5 rfl ?_
  refine z_iload_n h dX1_timeOf_4 rfl ?_
  refine z_iald h dX1_timeOf_5 L6 (by decide) (by omega) ?_
  refine z_if_ne h dX1_timeOf_6 (by omega) (fun b6 => ?_) (fun b6 => ?_)
  · refine z_sipush h dX1_timeOf_18 (by decide) ?_
    refine z_irI h hr dX1_timeOf_21 ?_
    simp_all
  · refine z_raload_n h dX1_timeOf_9 rfl ?_
    refine z_getr h dX1_timeOf_10 fX1_15 L5 rfl ?_
    refine z_iload_n h dX1_timeOf_13 rfl ?_
    refine z_iald h dX1_timeOf_14 L7 (by decide) (by omega) ?_
    refine z_goto h dX1_timeOf_15 ?_
    refine z_irI h hr dX1_timeOf_21 ?_
    simp_all
theorem c_X1_begin (σ : zM) (π : Nat) (hp : zPl π) (hpl : σ 5 6 = π) : zCv mX1_begin (fun w => [zr w 5]) σ (fun σ' => zfr 5 8 σ σ' ∧ (∀ i : Int, i < 10 → σ' 5 i = σ 5 i) ∧ (σ' 5 10 = 0 ∧ σ' 5 11 = 0 ∧ σ' 5 12 = 0 ∧ σ' 5 13 = σ π 9 ∧ σ' 5 14 = 0 ∧ σ' 5 15 = -1) ∧ (∀ i : Int, 0 ≤ i → i < 10 → σ' 6 i = 3 ∧ σ' 7 i = 200 ∧ σ' 8 i = 0)) := by
  refine zCv_mk (own := RX1) rfl (by decide +kernel) (fun w => [some (zr w 5), none]) (fun _ => rfl) (fun _ => Nat.le_of_ble_eq_true rfl) ?_
  intro Γ h hr
  have hpi : 39 ≤ π := by unfold zPl at hp; omega
  have L : ∀ (r k : Nat) (σ1 : zM), k + r = 10 → (∀ c, c ≠ 6 → c ≠ 7 → c ≠ 8 → ∀ i, σ1 c i = σ c i) → (∀ i : Int, 0 ≤ i → i < k → σ1 6 i = 3 ∧ σ1 7 i = 200 ∧ σ1 8 i = 0) → zV Γ σ1 2 [some (zr (zw Γ) 5), some (zi k)] [] := by
    intro r
    induction r with
    | zero =>
      intro k σ1 h1 h2 h3
      have e := h2 5 (by omega) (by omega) (by omega)
      refine z_iload_n h dX1_begin_2 rfl ?_
      refine z_bipush h dX1_begin_3 (by decide) ?_
      refine z_icmp_ge h dX1_begin_5 (by omega) (by omega) (fun b5 => ?_) (fun b5 => by exfalso; omega)
      refine z_raload_n h dX1_begin_37 rfl ?_
      refine z_iconst h dX1_begin_38 ?_
      refine y_put 10 h dX1_begin_39 fX1_93 pX1_10 L5 rfl rfl ?_
      refine z_raload_n h dX1_begin_42 rfl ?_
      refine z_iconst h dX1_begin_43 ?_
      refine y_put 11 h dX1_begin_44 fX1_96 pX1_11 L5 rfl rfl ?_
      refine z_raload_n h dX1_begin_47 rfl ?_
      refine z_iconst h dX1_begin_48 ?_
      refine y_put 12 h dX1_begin_49 fX1_56 pX1_12 L5 rfl rfl ?_
      refine z_raload_n h dX1_begin_52 rfl ?_
      refine z_raload_n h dX1_begin_53 rfl ?_
      refine y_getd 6 h dX1_begin_54 fX1_34 L5 rfl rfl (by simp (disch := omega) only [zup_nei]; rw [e]; exact hpl) ?_
      refine y_get 9 h dX1_begin_57 fX1_99 (zPl_o hp) rfl rfl ?_
      try simp (disch := omega) only [zup_eq, zup_ne, zup_nei]
      refine y_put 13 h dX1_begin_60 fX1_87 pX1_13 L5 rfl rfl ?_
      refine z_raload_n h dX1_begin_63 rfl ?_
      refine z_iconst h dX1_begin_64 ?_
      refine y_put 14 h dX1_begin_65 fX1_100 pX1_14 L5 rfl rfl ?_
      refine z_raload_n h dX1_begin_68 rfl ?_
      refine z_iconst h dX1_begin_69 ?_
      refine y_put 15 h dX1_begin_70 fX1_103 pX1_15 L5 rfl rfl ?_
      refine z_irV h hr dX1_begin_73 ?_
      refine ⟨fun c hc i => ?_, fun i hi => ?_, ⟨?_, ?_, ?_, ?_, ?_, ?_⟩, fun i a b => ?_⟩
      · simp (disch := omega) only [zup_ne]; exact h2 c (by omega) (by omega) (by omega) i
      · simp (disch := omega) only [zup_nei]; exact e i
      · simp (disch := omega) only [zup_nei, zup_eq]
      · simp (disch := omega) only [zup_nei, zup_eq]
      · simp (disch := omega) only [zup_nei, zup_eq]
      · simp (disch := omega) only [zup_nei, zup_eq]; exact h2 π (by omega) (by omega) (by omega) 9
      · simp (disch := omega) only [zup_nei, zup_eq]
      · simp (disch := omega) only [zup_nei, zup_eq]
      · simp (disch := omega) only [zup_ne]; exact h3 i a (by omega)
    | succ r ih =>
      intro k σ1 h1 h2 h3
      refine z_iload_n h dX1_begin_2 rfl ?_
      refine z_bipush h dX1_begin_3 (by decide) ?_
      refine z_icmp_ge h dX1_begin_5 (by omega) (by omega) (fun b5 => by exfalso; omega) (fun b5 => ?_)
      refine z_raload_n h dX1_begin_8 rfl ?_
      refine z_getr h dX1_begin_9 fX1_9 L5 rfl ?_
      refine z_iload_n h dX1_begin_12 rfl ?_
      refine z_iconst h dX1_begin_13 ?_
      refine z_iast h dX1_begin_14 L6 (by decide) (by omega) ?_
      refine z_raload_n h dX1_begin_15 rfl ?_
      refine z_getr h dX1_begin_16 fX1_15 L5 rfl ?_
      refine z_iload_n h dX1_begin_19 rfl ?_
      refine z_sipush h dX1_begin_20 (by decide) ?_
      refine z_iast h dX1_begin_23 L7 (by decide) (by omega) ?_
      refine z_raload_n h dX1_begin_24 rfl ?_
      refine z_getr h dX1_begin_25 fX1_18 L5 rfl ?_
      refine z_iload_n h dX1_begin_28 rfl ?_
      refine z_iconst h dX1_begin_29 ?_
      refine z_zast h dX1_begin_30 L8 (by decide) (by omega) (by decide) ?_
      refine z_iinc h dX1_begin_31 (by decide) rfl (zst1_1 rfl) ?_
      refine z_goto h dX1_begin_34 ?_
      rw [show (k : Int) + 1 = ((k + 1 : Nat) : Int) by omega]
      refine ih (k + 1) _ (by omega) (fun c a b d i => by simp (disch := omega) only [zup_ne]; exact h2 c a b d i) (fun i a b => ?_)
      by_cases e : i = k
      · subst e; simp (disch := omega) only [zup_ne, zup_eq]; exact ⟨trivial, trivial, trivial⟩
      · simp (disch := omega) only [zup_ne, zup_nei]; exact h3 i a (by omega)
  refine z_iconst h dX1_begin_0 ?_
  refine z_ist1_n h dX1_begin_1 (by decide) (zst1_1 rfl) ?_
  exact L 10 0 σ rfl (fun _ _ _ _ _ => rfl) (fun i a b => by omega)
def gG (P : zP) (t i : Int) : Bool := decide (pA P i + pW P i ≤ t)
theorem c_X1_letGoAway (σ : zM) (π : Nat) (hp : zPl π) (hpl : σ 5 6 = π) (P : zP) (hP : cPlan σ π P) (line : List Int) (how whn : Int → Int) (t : Int) (ht : 0 ≤ t ∧ t < 200) (hR : cRow σ line P.1.length) (hE : cEnd σ how whn) (h12 : 0 ≤ σ 5 12 ∧ σ 5 12 ≤ 10000) : zCv mX1_letGoAway (fun w => [zr w 5, zi t]) σ (fun σ' => zfr 5 9 σ σ' ∧ (∀ i : Int, i ≠ 10 → i ≠ 12 → σ' 5 i = σ 5 i) ∧ cRow σ' (line.filter (fun i => !gG P t i)) P.1.length ∧ cEnd σ' (fun i => if i ∈ line ∧ gG P t i = true then 1 else how i) (fun i => if i ∈ line ∧ gG P t i = true then t else whn i) ∧ σ' 5 12 = σ 5 12 + line.length - (line.filter (fun i => !gG P t i)).length) := by
  refine zCv_mk (own := RX1) rfl (by decide +kernel) (fun w => [some (zr w 5), some (zi t), none, none, none]) (fun _ => rfl) (fun _ => Nat.le_of_ble_eq_true rfl) ?_
  intro Γ h hr
  have hpi : 39 ≤ π := by unfold zPl at hp; omega
  obtain ⟨r1, r2, r3, r4, r5, r6⟩ := hR
  have np10 := hP.2.2.2.2.2.1
  have L : ∀ (r k : Nat) (σ1 : zM) (kp : List Int) (l4 : Option Value), k + r = line.length → kp = (line.take k).filter (fun i => !gG P t i) → zfr 5 9 σ σ1 → (∀ i : Int, i ≠ 12 → σ1 5 i = σ 5 i) → σ1 5 12 = σ 5 12 + k - kp.length → (∀ (j : Nat) x, kp[j]? = some x → σ1 9 j = x) → (∀ (j : Nat) x, line[j]? = some x → k ≤ j → σ1 9 j = x) → (∀ i : Int, 0 ≤ i → i < 10 → σ1 6 i = (if i ∈ line.take k ∧ gG P t i = true then 1 else how i) ∧ σ1 7 i = (if i ∈ line.take k ∧ gG P t i = true then t else whn i) ∧ σ1 8 i = (if i ∈ line ∧ ¬ (i ∈ line.take k ∧ gG P t i = true) then 1 else 0)) → zV Γ σ1 4 [some (zr (zw Γ) 5), some (zi t), some (zi kp.length), some (zi k), l4] [] := by
    intro r
    induction r with
    | zero =>
      intro k σ1 kp l4 h1 h2 h3 h4 h5 h6 h7 h8
      have e10 := h4 10 (by omega)
      have ek : line.take k = line := List.take_of_length_le (by omega)
      rw [ek] at h2 h8
      have hkl : kp.length ≤ line.length := by rw [h2]; exact List.length_filter_le _ _
      refine z_iload_n h dX1_letGoAway_4 rfl ?_
      refine z_raload_n h dX1_letGoAway_5 rfl ?_
      refine y_get 10 h dX1_letGoAway_6 fX1_93 L5 rfl rfl ?_
      refine z_icmp_ge h dX1_letGoAway_9 (by omega) (by omega) (fun b9 => ?_) (fun b9 => by exfalso; omega)
      refine z_raload_n h dX1_letGoAway_73 rfl ?_
      refine z_iload_n h dX1_letGoAway_74 rfl ?_
      refine y_put 10 h dX1_letGoAway_75 fX1_93 pX1_10 L5 rfl rfl ?_
      refine z_irV h hr dX1_letGoAway_78 ?_
      rw [← h2]
      refine ⟨zfr_up h3 (by omega) (by omega), fun i a b => ?_, ⟨by rw [zup_eq], by omega, fun j x hj => ?_, fun x hx => ?_, ?_, fun i a b => ?_⟩, fun i a b => ?_, ?_⟩
      · rw [zup_nei a]; exact h4 i b
      · rw [zup_ne (by omega)]; exact h6 j x hj
      · rw [h2] at hx; exact r4 x (List.mem_filter.mp hx).1
      · rw [h2]; exact r5.filter _
      · rw [zup_ne (by omega), (h8 i a b).2.2, h2]
        by_cases e : i ∈ line
        · cases hg : gG P t i <;> simp [List.mem_filter, e, hg]
        · simp [List.mem_filter, e]
      · rw [zup_ne (by omega), zup_ne (by omega)]
        have := h8 i a b
        have h9 := hE i a b
        refine ⟨⟨this.1, this.2.1⟩, ?_⟩
        by_cases e : i ∈ line ∧ gG P t i = true
        · simp only [if_pos e]; omega
        · simp only [if_neg e]; exact h9.2
      · rw [zup_nei (by omega), h5]; omega
    | succ r ih =>
      intro k σ1 kp l4 h1 h2 h3 h4 h5 h6 h7 h8
      have e10 := h4 10 (by omega)
      have e6 := h4 6 (by omega)
      have hlt : k < line.length := by omega
      have hx := List.getElem?_eq_getElem hlt
      obtain ⟨x, hxe⟩ : ∃ x, x = line[k] := ⟨_, rfl⟩
      rw [← hxe] at hx
      have hm : x ∈ line := List.mem_of_getElem? hx
      have hxr := r4 x hm
      have e9 : σ1 9 k = x := h7 k x hx (Nat.le_refl _)
      have hP1 : cPlan σ1 π P := cPlan_fr hP (fun c a b i => h3 c (by omega) i)
      have hpa := cPlan_at hP1 hxr
      have hkl : kp.length ≤ k := by
        rw [h2]
        refine Nat.le_trans (List.length_filter_le _ _) ?_
        rw [List.length_take]; omega
      have etk : line.take (k + 1) = line.take k ++ [x] := by rw [List.take_add_one, hx]; rfl
      have hxn : x ∉ line.take k := by
        intro z
        obtain ⟨j, hj⟩ := List.getElem?_of_mem z
        rw [List.getElem?_take] at hj
        split at hj
        · next hjk =>
          have hjl := (List.getElem?_eq_some_iff.mp hj).1
          have := (List.getElem_inj (h₀ := hjl) (h₁ := hlt) r5).mp (by rw [← hxe]; exact (List.getElem?_eq_some_iff.mp hj).2)
          omega
        · cases hj
      by_cases hg : gG P t x = true
      · have hg' : pA P x + pW P x ≤ t := by simpa [gG] using hg
        have ekp : kp = (line.take (k + 1)).filter (fun i => !gG P t i) := by rw [etk, List.filter_append, ← h2]; simp [hg]
        refine z_iload_n h dX1_letGoAway_4 rfl ?_
        refine z_raload_n h dX1_letGoAway_5 rfl ?_
        refine y_get 10 h dX1_letGoAway_6 fX1_93 L5 rfl rfl ?_
        refine z_icmp_ge h dX1_letGoAway_9 (by omega) (by omega) (fun b9 => by exfalso; omega) (fun b9 => ?_)
        refine z_raload_n h dX1_letGoAway_12 rfl ?_
        refine z_getr h dX1_letGoAway_13 fX1_22 L5 rfl ?_
        refine z_iload_n h dX1_letGoAway_16 rfl ?_
        refine z_iald h dX1_letGoAway_17 L9 (by decide) (by omega) ?_
        rw [e9]
        refine z_ist1 h dX1_letGoAway_18 (by decide) (zst1_4 rfl) ?_
        refine z_iload_n h dX1_letGoAway_20 rfl ?_
        refine z_raload_n h dX1_letGoAway_21 rfl ?_
        refine y_getd 6 h dX1_letGoAway_22 fX1_34 L5 rfl rfl (by rw [e6]; exact hpl) ?_
        refine z_getr h dX1_letGoAway_25 fX1_106 (zPl_o hp) rfl ?_
        refine z_iload h dX1_letGoAway_28 rfl ?_
        refine z_iald h dX1_letGoAway_30 (zPl_1 hp) (by decide) (by omega) ?_
        rw [hpa.1.1]
        refine z_isub h dX1_letGoAway_31 ?_
        refine z_raload_n h dX1_letGoAway_32 rfl ?_
        refine y_getd 6 h dX1_letGoAway_33 fX1_34 L5 rfl rfl (by rw [e6]; exact hpl) ?_
        refine z_getr h dX1_letGoAway_36 fX1_109 (zPl_o hp) rfl ?_
        refine z_iload h dX1_letGoAway_39 rfl ?_
        refine z_iald h dX1_letGoAway_41 (zPl_3 hp) (by decide) (by omega) ?_
        rw [hpa.1.2.2]
        refine z_icmp_lt h dX1_letGoAway_42 (by omega) (by omega) (fun b42 => by exfalso; omega) (fun b42 => ?_)
        refine z_raload_n h dX1_letGoAway_45 rfl ?_
        refine z_iload h dX1_letGoAway_46 rfl ?_
        refine z_iconst h dX1_letGoAway_48 ?_
        refine z_iload_n h dX1_letGoAway_49 rfl ?_
        refine z_cVv3 h dX1_letGoAway_50 lX1_112 vX1_end rfl L5 (c_X1_end σ1 x 1 t (by omega)) rfl (Nat.le_of_ble_eq_true rfl) (by decide) (fun σ2 h10 => ?_)
        refine z_goto h dX1_letGoAway_53 ?_
        refine z_iinc h dX1_letGoAway_67 (by decide) rfl (zst1_3 rfl) ?_
        refine z_goto h dX1_letGoAway_70 ?_
        subst h10
        rw [show (k : Int) + 1 = ((k + 1 : Nat) : Int) by omega]
        refine ih (k + 1) _ kp _ (by omega) ekp (zfr_up (zfr_up (zfr_up (zfr_up h3 (by omega) (by omega)) (by omega) (by omega)) (by omega) (by omega)) (by omega) (by omega)) (fun i a => by simp (disch := omega) only [zup_nei, zup_ne]; exact h4 i a) (by rw [zup_eq, h5]; omega) (fun j y hj => by simp (disch := omega) only [zup_ne]; exact h6 j y hj) (fun j y hj hk => by simp (disch := omega) only [zup_ne]; exact h7 j y hj (by omega)) (fun i a b => ?_)
        have h11 := h8 i a b
        rw [etk]
        by_cases e : i = x
        · subst e
          simp (disch := omega) only [zup_ne, zup_eq]
          simp [hg]
        · simp (disch := omega) only [zup_ne, zup_nei]
          simp only [List.mem_append, List.mem_singleton, e, or_false]
          exact h11
      · have hg' : ¬ pA P x + pW P x ≤ t := by simpa [gG] using hg
        have ekp : kp ++ [x] = (line.take (k + 1)).filter (fun i => !gG P t i) := by rw [etk, List.filter_append, ← h2]; simp [hg]
        refine z_iload_n h dX1_letGoAway_4 rfl ?_
        refine z_raload_n h dX1_letGoAway_5 rfl ?_
        refine y_get 10 h dX1_letGoAway_6 fX1_93 L5 rfl rfl ?_
        refine z_icmp_ge h dX1_letGoAway_9 (by omega) (by omega) (fun b9 => by exfalso; omega) (fun b9 => ?_)
        refine z_raload_n h dX1_letGoAway_12 rfl ?_
        refine z_getr h dX1_letGoAway_13 fX1_22 L5 rfl ?_
        refine z_iload_n h dX1_letGoAway_16 rfl ?_
        refine z_iald h dX1_letGoAway_17 L9 (by decide) (by omega) ?_
        rw [e9]
        refine z_ist1 h dX1_letGoAway_18 (by decide) (zst1_4 rfl) ?_
        refine z_iload_n h dX1_letGoAway_20 rfl ?_
        refine z_raload_n h dX1_letGoAway_21 rfl ?_
        refine y_getd 6 h dX1_letGoAway_22 fX1_34 L5 rfl rfl (by rw [e6]; exact hpl) ?_
        refine z_getr h dX1_letGoAway_25 fX1_106 (zPl_o hp) rfl ?_
        refine z_iload h dX1_letGoAway_28 rfl ?_
        refine z_iald h dX1_letGoAway_30 (zPl_1 hp) (by decide) (by omega) ?_
        rw [hpa.1.1]
        refine z_isub h dX1_letGoAway_31 ?_
        refine z_raload_n h dX1_letGoAway_32 rfl ?_
        refine y_getd 6 h dX1_letGoAway_33 fX1_34 L5 rfl rfl (by rw [e6]; exact hpl) ?_
        refine z_getr h dX1_letGoAway_36 fX1_109 (zPl_o hp) rfl ?_
        refine z_iload h dX1_letGoAway_39 rfl ?_
        refine z_iald h dX1_letGoAway_41 (zPl_3 hp) (by decide) (by omega) ?_
        rw [hpa.1.2.2]
        refine z_icmp_lt h dX1_letGoAway_42 (by omega) (by omega) (fun b42 => ?_) (fun b42 => by exfalso; omega)
        refine z_raload_n h dX1_letGoAway_56 rfl ?_
        refine z_getr h dX1_letGoAway_57 fX1_22 L5 rfl ?_
        refine z_iload_n h dX1_letGoAway_60 rfl ?_
        refine z_iload h dX1_letGoAway_61 rfl ?_
        refine z_iast h dX1_letGoAway_63 L9 (by decide) (by omega) ?_
        refine z_iinc h dX1_letGoAway_64 (by decide) rfl (zst1_2 rfl) ?_
        refine z_iinc h dX1_letGoAway_67 (by decide) rfl (zst1_3 rfl) ?_
        refine z_goto h dX1_letGoAway_70 ?_
        rw [show (k : Int) + 1 = ((k + 1 : Nat) : Int) by omega]
        have := ih (k + 1) (zup σ1 9 kp.length x) (kp ++ [x]) (some (zi x)) (by omega) ekp (zfr_up h3 (by omega) (by omega)) (fun i a => by simp (disch := omega) only [zup_ne]; exact h4 i a) (by rw [zup_ne (by omega), h5]; simp; omega) (fun j y hj => ?_) (fun j y hj hk => ?_) (fun i a b => ?_)
        · rw [List.length_append, List.length_singleton] at this
          exact this
        · by_cases e : j < kp.length
          · rw [List.getElem?_append_left e] at hj
            rw [zup_nei (by omega)]
            exact h6 j y hj
          · have e2 := (List.getElem?_eq_some_iff.mp hj).1
            simp at e2
            have e3 : j = kp.length := by omega
            subst e3
            simp at hj
            rw [zup_eq, hj]
        · rw [zup_nei (by omega)]; exact h7 j y hj (by omega)
        · have h11 := h8 i a b
          rw [etk]
          simp (disch := omega) only [zup_ne]
          by_cases e : i = x
          · subst e
            simp only [hg, Bool.false_eq_true, and_false, if_false]
            simp only [hg, Bool.false_eq_true, and_false, if_false] at h11
            exact h11
          · simp only [List.mem_append, List.mem_singleton, e, or_false]
            exact h11
  refine z_iconst h dX1_letGoAway_0 ?_
  refine z_ist1_n h dX1_letGoAway_1 (by decide) (zst1_2 rfl) ?_
  refine z_iconst h dX1_letGoAway_2 ?_
  refine z_ist1_n h dX1_letGoAway_3 (by decide) (zst1_3 rfl) ?_
  refine L line.length 0 σ [] none (by omega) (by simp) zfr_rf (fun _ _ => rfl) (by simp) (by simp) (fun j x hj _ => r3 j x hj) (fun i a b => ?_)
  have := hE i a b
  simp
  exact ⟨this.1.1, this.1.2, r6 i a b⟩
