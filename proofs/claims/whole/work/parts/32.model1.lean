/-! ===== the reference: its memory and its leaves ===== -/
def mText (σ : zM) (tx : List Int) : Prop := σ 57 0 = tx.length ∧ tx.length ≤ 300 ∧ ∀ (k : Nat) (x : Int), tx[k]? = some x → 0 ≤ x ∧ x ≤ 255 ∧ σ 58 k = x
def mCr (σ : zM) (b : Int) (l : List (Int × Int)) : Prop := σ 68 b = l.length ∧ l.length ≤ 8 ∧ ∀ (k : Nat) (p : Int × Int), l[k]? = some p → σ 69 (8 * b + k) = p.1 ∧ σ 70 (8 * b + k) = p.2 ∧ 0 ≤ p.2 ∧ p.2 < 100
def mPlan (σ : zM) (b : Int) (P : zP) : Prop := σ 59 b = P.1.length ∧ (∀ (k : Nat) (p : Int × Int × Int), P.1[k]? = some p → σ 60 (10 * b + k) = p.1 ∧ σ 61 (10 * b + k) = p.2.1 ∧ σ 62 (10 * b + k) = p.2.2) ∧ mCr σ b P.2.1 ∧ (σ 63 b = P.2.2.1 ∧ σ 64 b = P.2.2.2.1 ∧ σ 65 b = P.2.2.2.2.1 ∧ σ 66 b = P.2.2.2.2.2.1 ∧ σ 67 b = P.2.2.2.2.2.2) ∧ zPok P
def mNames (σ : zM) (sv sd : List Int) : Prop := σ 71 0 = sv.length ∧ sv.length ≤ 9 ∧ σ 71 1 = sd.length ∧ sd.length ≤ 9 ∧ (∀ (k : Nat) (x : Int), sv[k]? = some x → σ 72 k = x ∧ 0 ≤ x ∧ x ≤ 10) ∧ (∀ (k : Nat) (x : Int), sd[k]? = some x → σ 72 (9 + k) = x ∧ 0 ≤ x ∧ x ≤ 9)
def mInv (σ : zM) (S : zSt) : Prop := mText σ S.1 ∧ mPlan σ 0 S.2.1 ∧ (S.2.2.1 ≤ S.2.1.2.1.length ∧ σ 57 15 = (S.2.1.2.1.length : Int) - S.2.2.1) ∧ (σ 57 14 = S.2.2.2.1.length ∧ S.2.2.2.1.length ≤ 2) ∧ (∀ (k : Nat) l, S.2.2.2.1[k]? = some l → mCr σ (2 + k) l ∧ ∀ c ∈ l, 0 ≤ c.1 ∧ c.1 < S.2.1.1.length) ∧ mNames σ S.2.2.2.2.1 S.2.2.2.2.2 ∧ 1 ≤ S.2.1.1.length
/-- what the invariant looks at -/
def mUse (c : Nat) (i : Int) : Prop := (c = 57 ∧ (i = 0 ∨ i = 14 ∨ i = 15)) ∨ c = 58 ∨ ((c = 59 ∨ (63 ≤ c ∧ c ≤ 68)) ∧ i ≠ 1) ∨ (60 ≤ c ∧ c ≤ 62 ∧ i < 10) ∨ ((c = 69 ∨ c = 70) ∧ (i < 8 ∨ 16 ≤ i)) ∨ c = 71 ∨ c = 72
theorem mText_fr {σ σ' : zM} {tx : List Int} (h : mText σ tx) (h0 : σ' 57 0 = σ 57 0) (h1 : ∀ i, σ' 58 i = σ 58 i) : mText σ' tx :=
  ⟨by rw [h0]; exact h.1, h.2.1, fun k x hk => by rw [h1]; exact h.2.2 k x hk⟩
theorem mCr_fr {σ σ' : zM} {b : Int} {l : List (Int × Int)} (h : mCr σ b l) (h0 : σ' 68 b = σ 68 b) (h1 : ∀ k : Int, 0 ≤ k → k < 8 → σ' 69 (8 * b + k) = σ 69 (8 * b + k) ∧ σ' 70 (8 * b + k) = σ 70 (8 * b + k)) : mCr σ' b l := by
  refine ⟨by rw [h0]; exact h.1, h.2.1, fun k p hk => ?_⟩
  have hl := (List.getElem?_eq_some_iff.mp hk).1
  have := h1 k (by omega) (by have := h.2.1; omega)
  rw [this.1, this.2]
  exact h.2.2 k p hk
theorem mPlan_fr {σ σ' : zM} {b : Int} {P : zP} (h : mPlan σ b P) (h0 : ∀ c, c = 59 ∨ (63 ≤ c ∧ c ≤ 67) → σ' c b = σ c b) (h1 : ∀ c k : Nat, 60 ≤ c → c ≤ 62 → k < 10 → σ' c (10 * b + k) = σ c (10 * b + k)) (h2 : mCr σ' b P.2.1) : mPlan σ' b P := by
  obtain ⟨q1, q2, q3, q4, q5⟩ := h
  refine ⟨by rw [h0 59 (by omega)]; exact q1, fun k p hk => ?_, h2, ?_, q5⟩
  · have hl := (List.getElem?_eq_some_iff.mp hk).1
    have := q5.1
    rw [h1 60 k (by omega) (by omega) (by omega), h1 61 k (by omega) (by omega) (by omega), h1 62 k (by omega) (by omega) (by omega)]
    exact q2 k p hk
  · rw [h0 63 (by omega), h0 64 (by omega), h0 65 (by omega), h0 66 (by omega), h0 67 (by omega)]
    exact q4
theorem mNames_fr {σ σ' : zM} {sv sd : List Int} (h : mNames σ sv sd) (h1 : ∀ i, σ' 71 i = σ 71 i) (h2 : ∀ i, σ' 72 i = σ 72 i) : mNames σ' sv sd := by
  unfold mNames
  simp only [h1, h2]
  exact h
theorem mInv_of {σ σ' : zM} {S : zSt} (h : mInv σ S) (hf : ∀ c i, mUse c i → σ' c i = σ c i) : mInv σ' S := by
  obtain ⟨h1, h2, h3, h4, h5, h6, h7⟩ := h
  refine ⟨mText_fr h1 (hf 57 0 (by unfold mUse; omega)) (fun i => hf 58 i (by unfold mUse; omega)), mPlan_fr h2 (fun c hc => hf c 0 (by unfold mUse; omega)) (fun c k a b d => hf c _ (by unfold mUse; omega)) (mCr_fr h2.2.2.1 (hf 68 0 (by unfold mUse; omega)) (fun k a b => ⟨hf 69 _ (by unfold mUse; omega), hf 70 _ (by unfold mUse; omega)⟩)), ⟨h3.1, by rw [hf 57 15 (by unfold mUse; omega)]; exact h3.2⟩, ⟨by rw [hf 57 14 (by unfold mUse; omega)]; exact h4.1, h4.2⟩, fun k l hk => ⟨mCr_fr (h5 k l hk).1 (hf 68 _ (by unfold mUse; omega)) (fun j a b => ⟨hf 69 _ (by unfold mUse; omega), hf 70 _ (by unfold mUse; omega)⟩), (h5 k l hk).2⟩, mNames_fr h6 (fun i => hf 71 i (by unfold mUse; omega)) (fun i => hf 72 i (by unfold mUse; omega)), h7⟩
theorem mPlan_at {σ : zM} {P : zP} (h : mPlan σ 0 P) {i : Int} (hi : 0 ≤ i ∧ i < P.1.length) : (σ 60 i = pA P i ∧ σ 61 i = pC P i ∧ σ 62 i = pW P i) ∧ 0 ≤ pA P i ∧ pA P i ≤ 99 ∧ (pC P i = 0 ∨ pC P i = 1) ∧ 1 ≤ pW P i ∧ pW P i ≤ 99 := by
  have hl : i.toNat < P.1.length := by omega
  have h1 := h.2.1 i.toNat _ (List.getElem?_eq_getElem hl)
  rw [show (10 * 0 + (i.toNat : Int)) = i by omega] at h1
  have h2 := h.2.2.2.2.2.1 _ (List.getElem_mem hl)
  unfold pA pC pW
  rw [List.getD_eq_getElem?_getD, List.getElem?_eq_getElem hl]
  exact ⟨h1, h2⟩
theorem mCr_at {σ : zM} {l : List (Int × Int)} (h : mCr σ 0 l) {c : Nat} (hc : c < l.length) : σ 69 c = (l.getD c (0, 0)).1 ∧ σ 70 c = (l.getD c (0, 0)).2 ∧ 0 ≤ (l.getD c (0, 0)).2 ∧ (l.getD c (0, 0)).2 < 100 := by
  have h1 := h.2.2 c _ (List.getElem?_eq_getElem hc)
  rw [show (8 * 0 + (c : Int)) = c by omega] at h1
  rw [List.getD_eq_getElem?_getD, List.getElem?_eq_getElem hc]
  exact h1
theorem zcmp_c (x y : Int) : (zcmp x y = 1 ∧ y < x) ∨ (zcmp x y = 0 ∧ x = y) ∨ (zcmp x y = -1 ∧ x < y) := by
  unfold zcmp
  split
  · exact Or.inl ⟨rfl, by omega⟩
  · split
    · exact Or.inr (Or.inl ⟨rfl, by omega⟩)
    · exact Or.inr (Or.inr ⟨rfl, by omega⟩)
abbrev zlo (x : Int) : Prop := -9223372036854775808 ≤ x ∧ x ≤ 9223372036854775807
theorem c_X8_in (σ : zM) (v a b : Int) (hv : zlo v) (ha : zlo a) (hb : zlo b) : zCi mX8_in (fun _ => [zl v, zl a, zl b]) σ (fun r σ' => ((r = 1 ∧ a ≤ v ∧ v ≤ b) ∨ (r = 0 ∧ (v < a ∨ b < v))) ∧ σ' = σ) := by
  refine zCi_mk (own := RX8) rfl (by decide +kernel) (fun w => [some (zl v), none, some (zl a), none, some (zl b), none]) (fun _ => rfl) (fun _ => Nat.le_of_ble_eq_true rfl) ?_
  intro Γ h hr
  have e1 := zcmp_c v a
  have e2 := zcmp_c v b
  unfold zlo at hv ha hb
  refine z_lload_n h dX8_in_0 rfl ?_
  refine z_lload_n h dX8_in_1 rfl ?_
  refine z_lcmp h dX8_in_2 (by omega) (by omega) ?_
  refine z_if_lt h dX8_in_3 (by omega) (fun b3 => ?_) (fun b3 => ?_)
  · refine z_iconst h dX8_in_17 ?_
    refine z_irZ h hr dX8_in_18 (by first | decide | omega | simp_all) ?_
    exact ⟨by omega, rfl⟩
  · refine z_lload_n h dX8_in_6 rfl ?_
    refine z_lload h dX8_in_7 rfl ?_
    refine z_lcmp h dX8_in_9 (by omega) (by omega) ?_
    refine z_if_gt h dX8_in_10 (by omega) (fun b10 => ?_) (fun b10 => ?_)
    · refine z_iconst h dX8_in_17 ?_
      refine z_irZ h hr dX8_in_18 (by first | decide | omega | simp_all) ?_
      exact ⟨by omega, rfl⟩
    · refine z_iconst h dX8_in_13 ?_
      refine z_goto h dX8_in_14 ?_
      refine z_irZ h hr dX8_in_18 (by first | decide | omega | simp_all) ?_
      exact ⟨by omega, rfl⟩
theorem c_X8_has (σ : zM) (s t : Nat) (hs : s < 512) (ht : t < 10) : zCi mX8_has (fun _ => [zi s, zi t]) σ (fun r σ' => r = zb (s.testBit t) ∧ σ' = σ) := by
  refine zCi_mk (own := RX8) rfl (by decide +kernel) (fun w => [some (zi s), some (zi t)]) (fun _ => rfl) (fun _ => Nat.le_of_ble_eq_true rfl) ?_
  intro Γ h hr
  refine z_iload_n h dX8_has_0 rfl ?_
  refine z_iload_n h dX8_has_1 rfl ?_
  refine z_ishr h dX8_has_2 ?_
  refine z_iconst h dX8_has_3 ?_
  refine z_iand h dX8_has_4 ?_
  rw [zbit hs ht]
  refine z_iconst h dX8_has_5 ?_
  refine z_icmp_ne h dX8_has_6 (by split <;> omega) (by omega) (fun b6 => ?_) (fun b6 => ?_)
  · refine z_iconst h dX8_has_13 ?_
    refine z_irZ h hr dX8_has_14 (by first | decide | omega | simp_all) ?_
    refine ⟨?_, rfl⟩
    cases z : s.testBit t
    · first | rfl | (exfalso; rw [z] at b6; simp at b6)
    · first | rfl | (exfalso; rw [z] at b6; simp at b6)
  · refine z_iconst h dX8_has_9 ?_
    refine z_goto h dX8_has_10 ?_
    refine z_irZ h hr dX8_has_14 (by first | decide | omega | simp_all) ?_
    refine ⟨?_, rfl⟩
    cases z : s.testBit t
    · first | rfl | (exfalso; rw [z] at b6; simp at b6)
    · first | rfl | (exfalso; rw [z] at b6; simp at b6)
theorem c_X8_byteAt (σ : zM) (tx : List Int) (hx : mText σ tx) (k : Nat) (hk : k ≤ 1000) : zCi mX8_byteAt (fun u => [zr u 57, zi k]) σ (fun r σ' => r = tx.getD k 0 ∧ (0 ≤ r ∧ r ≤ 255) ∧ σ' = σ) := by
  refine zCi_mk (own := RX8) rfl (by decide +kernel) (fun w => [some (zr w 57), some (zi k)]) (fun _ => rfl) (fun _ => Nat.le_of_ble_eq_true rfl) ?_
  intro Γ h hr
  have h1 := hx.1
  have h2 := hx.2.1
  by_cases e : k < tx.length
  · have h3 := hx.2.2 k _ (List.getElem?_eq_getElem e)
    have h4 : tx.getD k 0 = tx[k] := by rw [List.getD_eq_getElem?_getD, List.getElem?_eq_getElem e]; rfl
    refine z_iload_n h dX8_byteAt_0 rfl ?_
    refine z_raload_n h dX8_byteAt_1 rfl ?_
    refine y_get 0 h dX8_byteAt_2 fX8_87 L57 rfl rfl ?_
    refine z_icmp_ge h dX8_byteAt_5 (by omega) (by omega) (fun b5 => by exfalso; omega) (fun b5 => ?_)
    refine z_raload_n h dX8_byteAt_8 rfl ?_
    refine z_getr h dX8_byteAt_9 fX8_7 L57 rfl ?_
    refine z_iload_n h dX8_byteAt_12 rfl ?_
    refine z_iald h dX8_byteAt_13 L58 (by decide) (by omega) ?_
    refine z_goto h dX8_byteAt_14 ?_
    refine z_irI h hr dX8_byteAt_18 ?_
    rw [h3.2.2, h4]
    exact ⟨rfl, ⟨h3.1, h3.2.1⟩, rfl⟩
  · have h4 : tx.getD k 0 = 0 := by rw [List.getD_eq_getElem?_getD, List.getElem?_eq_none (by omega)]; rfl
    refine z_iload_n h dX8_byteAt_0 rfl ?_
    refine z_raload_n h dX8_byteAt_1 rfl ?_
    refine y_get 0 h dX8_byteAt_2 fX8_87 L57 rfl rfl ?_
    refine z_icmp_ge h dX8_byteAt_5 (by omega) (by omega) (fun b5 => ?_) (fun b5 => by exfalso; omega)
    refine z_iconst h dX8_byteAt_17 ?_
    refine z_irI h hr dX8_byteAt_18 ?_
    rw [h4]
    exact ⟨rfl, by omega, rfl⟩
theorem c_X8_isPerson (σ : zM) (P : zP) (hP : mPlan σ 0 P) (i : Int) (hi : zok i) : zCi mX8_isPerson (fun u => [zr u 57, zi i]) σ (fun r σ' => ((r = 1 ∧ 0 ≤ i ∧ i < P.1.length) ∨ (r = 0 ∧ ¬ (0 ≤ i ∧ i < P.1.length))) ∧ σ' = σ) := by
  refine zCi_mk (own := RX8) rfl (by decide +kernel) (fun w => [some (zr w 57), some (zi i)]) (fun _ => rfl) (fun _ => Nat.le_of_ble_eq_true rfl) ?_
  intro Γ h hr
  unfold zok at hi
  have h1 := hP.1
  have h2 := hP.2.2.2.2.1
  refine z_iload_n h dX8_isPerson_0 rfl ?_
  refine z_i2l h dX8_isPerson_1 (by omega) ?_
  refine z_lconst (x := 0) h dX8_isPerson_2 (by decide) ?_
  refine z_raload_n h dX8_isPerson_3 rfl ?_
  refine z_getr h dX8_isPerson_4 fX8_13 L57 rfl ?_
  refine z_iconst h dX8_isPerson_7 ?_
  refine z_iald h dX8_isPerson_8 L59 (by decide) (by omega) ?_
  refine z_iconst h dX8_isPerson_9 ?_
  refine z_isub h dX8_isPerson_10 ?_
  refine z_i2l h dX8_isPerson_11 (by omega) ?_
  refine z_cSi3 h dX8_isPerson_12 lX8_83 vX8_in (c_X8_in σ i 0 (σ 59 0 - 1) (by unfold zlo; omega) (by unfold zlo; omega) (by unfold zlo; omega)) rfl (Nat.le_of_ble_eq_true rfl) (by decide) (fun v σ1 g => ?_)
  obtain ⟨g, rfl⟩ := g
  refine z_irZ h hr dX8_isPerson_15 (by first | decide | omega | simp_all) ?_
  exact ⟨by omega, rfl⟩
theorem c_X8_copyCries (σ : zM) (a b : Int) (ha : 0 ≤ a ∧ a < 4) (hb : 0 ≤ b ∧ b < 4) (hab : a ≠ b) : zCv mX8_copyCries (fun u => [zr u 57, zi a, zi b]) σ (fun σ' => (∀ c, c ≠ 68 → c ≠ 69 → c ≠ 70 → ∀ i, σ' c i = σ c i) ∧ (∀ i, σ' 68 i = if i = b then σ 68 a else σ 68 i) ∧ (∀ c i, c = 69 ∨ c = 70 → (i < 8 * b ∨ 8 * b + 8 ≤ i) → σ' c i = σ c i) ∧ ∀ k : Int, 0 ≤ k → k < 8 → σ' 69 (8 * b + k) = σ 69 (8 * a + k) ∧ σ' 70 (8 * b + k) = σ 70 (8 * a + k)) := by
  refine zCv_mk (own := RX8) rfl (by decide +kernel) (fun w => [some (zr w 57), some (zi a), some (zi b), none]) (fun _ => rfl) (fun _ => Nat.le_of_ble_eq_true rfl) ?_
  intro Γ h hr
  have L : ∀ (n k : Nat) (σ1 : zM), k + n = 8 → (∀ c, c ≠ 68 → c ≠ 69 → c ≠ 70 → ∀ i, σ1 c i = σ c i) → (∀ i, σ1 68 i = if i = b then σ 68 a else σ 68 i) → (∀ c i, c = 69 ∨ c = 70 → (i < 8 * b ∨ 8 * b + 8 ≤ i) → σ1 c i = σ c i) → (∀ j : Int, 0 ≤ j → j < k → σ1 69 (8 * b + j) = σ 69 (8 * a + j) ∧ σ1 70 (8 * b + j) = σ 70 (8 * a + j)) → zV Γ σ1 14 [some (zr (zw Γ) 57), some (zi a), some (zi b), some (zi k)] [] := by
    intro n
    induction n with
    | zero =>
      intro k σ1 h1 h2 h3 h4 h5
      refine z_iload_n h dX8_copyCries_14 rfl ?_
      refine z_bipush h dX8_copyCries_15 (by decide) ?_
      refine z_icmp_ge h dX8_copyCries_17 (by omega) (by omega) (fun b17 => ?_) (fun b17 => by exfalso; omega)
      refine z_irV h hr dX8_copyCries_70 ?_
      exact ⟨h2, h3, h4, fun j a b => h5 j a (by omega)⟩
    | succ n ih =>
      intro k σ1 h1 h2 h3 h4 h5
      refine z_iload_n h dX8_copyCries_14 rfl ?_
      refine z_bipush h dX8_copyCries_15 (by decide) ?_
      refine z_icmp_ge h dX8_copyCries_17 (by omega) (by omega) (fun b17 => by exfalso; omega) (fun b17 => ?_)
      refine z_raload_n h dX8_copyCries_20 rfl ?_
      refine z_getr h dX8_copyCries_21 fX8_43 L57 rfl ?_
      refine z_bipush h dX8_copyCries_24 (by decide) ?_
      refine z_iload_n h dX8_copyCries_26 rfl ?_
      refine z_imul h dX8_copyCries_27 ?_
      refine z_iload_n h dX8_copyCries_28 rfl ?_
      refine z_iadd h dX8_copyCries_29 ?_
      refine z_raload_n h dX8_copyCries_30 rfl ?_
      refine z_getr h dX8_copyCries_31 fX8_43 L57 rfl ?_
      refine z_bipush h dX8_copyCries_34 (by decide) ?_
      refine z_iload_n h dX8_copyCries_36 rfl ?_
      refine z_imul h dX8_copyCries_37 ?_
      refine z_iload_n h dX8_copyCries_38 rfl ?_
      refine z_iadd h dX8_copyCries_39 ?_
      refine z_iald h dX8_copyCries_40 L69 (by decide) (by omega) ?_
      refine z_iast h dX8_copyCries_41 L69 (by decide) (by omega) ?_
      refine z_raload_n h dX8_copyCries_42 rfl ?_
      refine z_getr h dX8_copyCries_43 fX8_46 L57 rfl ?_
      refine z_bipush h dX8_copyCries_46 (by decide) ?_
      refine z_iload_n h dX8_copyCries_48 rfl ?_
      refine z_imul h dX8_copyCries_49 ?_
      refine z_iload_n h dX8_copyCries_50 rfl ?_
      refine z_iadd h dX8_copyCries_51 ?_
      refine z_raload_n h dX8_copyCries_52 rfl ?_
      refine z_getr h dX8_copyCries_53 fX8_46 L57 rfl ?_
      refine z_bipush h dX8_copyCries_56 (by decide) ?_
      refine z_iload_n h dX8_copyCries_58 rfl ?_
      refine z_imul h dX8_copyCries_59 ?_
      refine z_iload_n h dX8_copyCries_60 rfl ?_
      refine z_iadd h dX8_copyCries_61 ?_
      refine z_iald h dX8_copyCries_62 L70 (by decide) (by omega) ?_
      try simp (disch := omega) only [zup_eq, zup_ne, zup_nei]
      refine z_iast h dX8_copyCries_63 L70 (by decide) (by omega) ?_
      refine z_iinc h dX8_copyCries_64 (by decide) rfl (zst1_3 rfl) ?_
      refine z_goto h dX8_copyCries_67 ?_
      rw [show (k : Int) + 1 = ((k + 1 : Nat) : Int) by omega]
      refine ih (k + 1) _ (by omega) (fun c c1 c2 c3 i => by simp (disch := omega) only [zup_ne]; exact h2 c c1 c2 c3 i) (fun i => by simp (disch := omega) only [zup_ne]; exact h3 i) (fun c i hc hi => by simp (disch := omega) only [zup_nei]; exact h4 c i hc hi) (fun j j1 j2 => ?_)
      by_cases e : j = k
      · subst e
        simp (disch := omega) only [zup_ne, zup_eq]
        exact ⟨h4 69 _ (by omega) (by omega), h4 70 _ (by omega) (by omega)⟩
      · simp (disch := omega) only [zup_ne, zup_nei]
        exact h5 j j1 (by omega)
  refine z_raload_n h dX8_copyCries_0 rfl ?_
  refine z_getr h dX8_copyCries_1 fX8_40 L57 rfl ?_
  refine z_iload_n h dX8_copyCries_4 rfl ?_
  refine z_raload_n h dX8_copyCries_5 rfl ?_
  refine z_getr h dX8_copyCries_6 fX8_40 L57 rfl ?_
  refine z_iload_n h dX8_copyCries_9 rfl ?_
  refine z_iald h dX8_copyCries_10 L68 (by decide) (by omega) ?_
  refine z_iast h dX8_copyCries_11 L68 (by decide) (by omega) ?_
  refine z_iconst h dX8_copyCries_12 ?_
  refine z_ist1_n h dX8_copyCries_13 (by decide) (zst1_3 rfl) ?_
  refine L 8 0 _ rfl (fun c c1 c2 c3 i => zup_ne c1) (fun i => ?_) (fun c i hc hi => zup_ne (by omega)) (fun j a b => by omega)
  by_cases e : i = b
  · rw [if_pos e, e, zup_eq]
  · rw [if_neg e, zup_nei e]
theorem c_X8_noMorning (σ : zM) (b : Int) (hb : b = 0 ∨ b = 1) : zCv mX8_noMorning (fun u => [zr u 57, zi b]) σ (fun σ' => σ' = zup (zup (zup (zup (zup (zup (zup σ 59 b 0) 63 b 0) 64 b 1) 65 b 2) 66 b 99) 67 b 0) 68 b 0) := by
  refine zCv_mk (own := RX8) rfl (by decide +kernel) (fun w => [some (zr w 57), some (zi b)]) (fun _ => rfl) (fun _ => Nat.le_of_ble_eq_true rfl) ?_
  intro Γ h hr
  refine z_raload_n h dX8_noMorning_0 rfl ?_
  refine z_getr h dX8_noMorning_1 fX8_13 L57 rfl ?_
  refine z_iload_n h dX8_noMorning_4 rfl ?_
  refine z_iconst h dX8_noMorning_5 ?_
  refine z_iast h dX8_noMorning_6 L59 (by decide) (by omega) ?_
  refine z_raload_n h dX8_noMorning_7 rfl ?_
  refine z_getr h dX8_noMorning_8 fX8_25 L57 rfl ?_
  refine z_iload_n h dX8_noMorning_11 rfl ?_
  refine z_iconst h dX8_noMorning_12 ?_
  refine z_iast h dX8_noMorning_13 L63 (by decide) (by omega) ?_
  refine z_raload_n h dX8_noMorning_14 rfl ?_
  refine z_getr h dX8_noMorning_15 fX8_28 L57 rfl ?_
  refine z_iload_n h dX8_noMorning_18 rfl ?_
  refine z_iconst h dX8_noMorning_19 ?_
  refine z_iast h dX8_noMorning_20 L64 (by decide) (by omega) ?_
  refine z_raload_n h dX8_noMorning_21 rfl ?_
  refine z_getr h dX8_noMorning_22 fX8_31 L57 rfl ?_
  refine z_iload_n h dX8_noMorning_25 rfl ?_
  refine z_iconst h dX8_noMorning_26 ?_
  refine z_iast h dX8_noMorning_27 L65 (by decide) (by omega) ?_
  refine z_raload_n h dX8_noMorning_28 rfl ?_
  refine z_getr h dX8_noMorning_29 fX8_34 L57 rfl ?_
  refine z_iload_n h dX8_noMorning_32 rfl ?_
  refine z_bipush h dX8_noMorning_33 (by decide) ?_
  refine z_iast h dX8_noMorning_35 L66 (by decide) (by omega) ?_
  refine z_raload_n h dX8_noMorning_36 rfl ?_
  refine z_getr h dX8_noMorning_37 fX8_37 L57 rfl ?_
  refine z_iload_n h dX8_noMorning_40 rfl ?_
  refine z_iconst h dX8_noMorning_41 ?_
  refine z_iast h dX8_noMorning_42 L67 (by decide) (by omega) ?_
  refine z_raload_n h dX8_noMorning_43 rfl ?_
  refine z_getr h dX8_noMorning_44 fX8_40 L57 rfl ?_
  refine z_iload_n h dX8_noMorning_47 rfl ?_
  refine z_iconst h dX8_noMorning_48 ?_
  refine z_iast h dX8_noMorning_49 L68 (by decide) (by omega) ?_
  refine z_irV h hr dX8_noMorning_50 ?_
  rfl
