/-! ===== words for the state ===== -/
/-- nothing but the cells lo .. hi has changed -/
def zfr (lo hi : Nat) (σ σ' : zM) : Prop := ∀ c, (c < lo ∨ hi < c) → ∀ i, σ' c i = σ c i
theorem zfr_rf {lo hi : Nat} {σ : zM} : zfr lo hi σ σ := fun _ _ _ => rfl
theorem zfr_tr {lo hi : Nat} {σ σ1 σ2 : zM} (h1 : zfr lo hi σ σ1) (h2 : zfr lo hi σ1 σ2) : zfr lo hi σ σ2 := fun c h i => (h2 c h i).trans (h1 c h i)
theorem zfr_mono {lo hi lo' hi' : Nat} {σ σ' : zM} (h : zfr lo hi σ σ') (h1 : lo' ≤ lo) (h2 : hi ≤ hi') : zfr lo' hi' σ σ' := fun c hc i => h c (by omega) i
theorem zfr_up {lo hi : Nat} {σ σ' : zM} {c : Nat} {i v : Int} (h : zfr lo hi σ σ') (h1 : lo ≤ c) (h2 : c ≤ hi) : zfr lo hi σ (zup σ' c i v) := fun c' hc j => by rw [zup_ne (by omega)]; exact h c' hc j
/-- bits of the minutes m -/
def zbn : List (Int × Int) → Int → Nat
  | [], _ => 0
  | p :: t, m => (if p.2 = m then 1 else 0) + 2 * zbn t m
theorem zbn_lt : ∀ (l : List (Int × Int)) (m : Int), zbn l m < 2 ^ l.length
  | [], _ => by simp [zbn]
  | p :: t, m => by
    have := zbn_lt t m
    simp only [zbn, List.length_cons, Nat.pow_succ]
    split <;> omega
theorem zbn_app : ∀ (l : List (Int × Int)) (p : Int × Int) (m : Int), zbn (l ++ [p]) m = zbn l m + (if p.2 = m then 2 ^ l.length else 0)
  | [], p, m => by simp [zbn]
  | q :: t, p, m => by
    simp only [List.cons_append, zbn, List.length_cons, Nat.pow_succ, zbn_app t p m]
    split <;> split <;> omega
theorem zbn_bit : ∀ (l : List (Int × Int)) (m : Int) (c : Nat), (zbn l m).testBit c = match l[c]? with | some p => decide (p.2 = m) | none => false
  | [], m, c => by simp [zbn]
  | p :: t, m, 0 => by
    simp only [zbn, Nat.testBit_zero, List.getElem?_cons_zero]
    split <;> simp_all <;> omega
  | p :: t, m, c + 1 => by
    have := zbn_bit t m c
    simp only [List.getElem?_cons_succ]
    rw [← this, zbn, Nat.testBit_succ]
    congr 1
    split <;> omega
theorem zshl_1 {k : Int} (h : 0 ≤ k ∧ k < 31) : zshl 1 k = 2 ^ k.toNat := by
  have : ∀ j : Fin 31, zshl 1 ((j.val : Nat) : Int) = 2 ^ j.val := by decide +kernel
  obtain ⟨n, rfl⟩ := Int.eq_ofNat_of_zero_le h.1
  exact this ⟨n, by omega⟩
theorem zor_p {a k : Nat} (hk : k < 8) (ha : a < 2 ^ k) : zor (a : Int) (2 ^ k) = (a : Int) + 2 ^ k := by
  have : ∀ k : Fin 8, ∀ a : Fin 128, a.val < 2 ^ k.val → zor ((a.val : Nat) : Int) (2 ^ k.val) = ((a.val : Nat) : Int) + 2 ^ k.val := by decide +kernel
  have h2 : 2 ^ k ≤ 2 ^ 7 := Nat.pow_le_pow_right (by decide) (by omega)
  exact this ⟨k, hk⟩ ⟨a, by omega⟩ ha
theorem zandn_p {a k : Nat} (hk : k < 8) (ha : a < 2 ^ k) : zand ((a : Int) + 2 ^ k) (zxor (2 ^ k) (-1)) = a ∧ zand (a : Int) (zxor (2 ^ k) (-1)) = a := by
  have : ∀ k : Fin 8, ∀ a : Fin 128, a.val < 2 ^ k.val → (zand (((a.val : Nat) : Int) + 2 ^ k.val) (zxor (2 ^ k.val) (-1)) = ((a.val : Nat) : Int) ∧ zand ((a.val : Nat) : Int) (zxor (2 ^ k.val) (-1)) = ((a.val : Nat) : Int)) := by decide +kernel
  have h2 : 2 ^ k ≤ 2 ^ 7 := Nat.pow_le_pow_right (by decide) (by omega)
  exact this ⟨k, hk⟩ ⟨a, by omega⟩ ha
/-- the class's list of cries at κ -/
def cCry (σ : zM) (κ : Nat) (l : List (Int × Int)) : Prop := σ κ 3 = l.length ∧ l.length ≤ 8 ∧ (∀ (k : Nat) (p : Int × Int), l[k]? = some p → σ (κ + 1) k = p.1 ∧ σ (κ + 2) k = p.2 ∧ 0 ≤ p.2 ∧ p.2 < 100) ∧ ∀ m : Int, 0 ≤ m → m < 100 → σ (κ + 3) m = zbn l m
theorem cCry_fr {σ σ' : zM} {κ : Nat} {l : List (Int × Int)} (h : cCry σ κ l) (hf : ∀ c, κ ≤ c → c ≤ κ + 3 → ∀ i, σ' c i = σ c i) : cCry σ' κ l := by
  obtain ⟨h1, h2, h3, h4⟩ := h
  refine ⟨by rw [hf κ (by omega) (by omega)]; exact h1, h2, fun k p hk => ?_, fun m a b => by rw [hf (κ + 3) (by omega) (by omega)]; exact h4 m a b⟩
  rw [hf (κ + 1) (by omega) (by omega), hf (κ + 2) (by omega) (by omega)]
  exact h3 k p hk
theorem cCry_add {σ : zM} {κ : Nat} {l : List (Int × Int)} {i m : Int} (h : cCry σ κ l) (hl : l.length < 8) (hm : 0 ≤ m ∧ m < 100) : cCry (zup (zup (zup (zup σ (κ + 1) (σ κ 3) i) (κ + 2) (σ κ 3) m) (κ + 3) m (zor (σ (κ + 3) m) (zshl 1 (σ κ 3)))) κ 3 (σ κ 3 + 1)) κ (l ++ [(i, m)]) := by
  obtain ⟨h1, h2, h3, h4⟩ := h
  refine ⟨by rw [zup_eq, h1]; simp, by simp; omega, fun k p hk => ?_, fun m' a b => ?_⟩
  · by_cases hkl : k < l.length
    · rw [List.getElem?_append_left hkl] at hk
      simp (disch := omega) only [zup_ne, zup_nei]
      exact h3 k p hk
    · have hkl' := (List.getElem?_eq_some_iff.mp hk).1
      simp at hkl'
      have e : k = l.length := by omega
      subst e
      rw [List.getElem?_append_right (by omega)] at hk
      simp at hk
      subst hk
      simp (disch := omega) only [zup_ne]
      rw [zup_eqi h1.symm, zup_eqi h1.symm]
      exact ⟨rfl, rfl, hm.1, hm.2⟩
  · rw [zup_ne (by omega), zbn_app]
    have hb := zbn_lt l m
    by_cases e : m' = m
    · subst e
      rw [zup_eq, h4 _ hm.1 hm.2, zshl_1 (by omega), h1]
      simp only [if_true, Int.toNat_natCast]
      rw [zor_p hl hb]
      simp
    · rw [zup_nei e, zup_ne (by omega), zup_ne (by omega), h4 m' a b, if_neg (fun z => e z.symm)]
      simp
theorem cCry_drop {σ : zM} {κ : Nat} {l : List (Int × Int)} {p : Int × Int} (h : cCry σ κ (l ++ [p])) : cCry (zup (zup σ κ 3 (σ κ 3 - 1)) (κ + 3) p.2 (zand (σ (κ + 3) p.2) (zxor (zshl 1 (σ κ 3 - 1)) (-1)))) κ l := by
  obtain ⟨h1, h2, h3, h4⟩ := h
  simp at h1 h2
  have hp := h3 l.length p (by simp)
  refine ⟨by rw [zup_ne (by omega), zup_eq, h1]; omega, by omega, fun k q hk => ?_, fun m' a b => ?_⟩
  · rw [zup_ne (by omega), zup_ne (by omega), zup_ne (by omega), zup_ne (by omega)]
    have hkl := (List.getElem?_eq_some_iff.mp hk).1
    exact h3 k q (by rw [List.getElem?_append_left hkl]; exact hk)
  · have hb := zbn_lt l m'
    by_cases e : m' = p.2
    · subst e
      rw [zup_eq, h4 _ a b, zbn_app, if_pos rfl, h1, show (l.length : Int) + 1 - 1 = l.length by omega, zshl_1 (by omega)]
      have := (zandn_p (a := zbn l p.2) (k := l.length) (by omega) hb).1
      simp only [Int.toNat_natCast, Int.natCast_add, Int.natCast_pow] at this ⊢
      exact this
    · rw [zup_nei e, zup_ne (by omega), h4 m' a b, zbn_app, if_neg (fun z => e z.symm)]
      rfl
theorem c_X0_add (σ : zM) (κ : Nat) (hc : zCy κ) (l : List (Int × Int)) (i m : Int) (hm : -2147483648 ≤ m ∧ m ≤ 2147483647) (hl : cCry σ κ l) : zCi mX0_add (fun w => [zr w κ, zi i, zi m]) σ (fun r σ' => (l.length < 8 ∧ 0 ≤ m ∧ m < 100 ∧ r = 1 ∧ cCry σ' κ (l ++ [(i, m)]) ∧ zfr κ (κ + 3) σ σ') ∨ (¬ (l.length < 8 ∧ 0 ≤ m ∧ m < 100) ∧ r = 0 ∧ σ' = σ)) := by
  refine zCi_mk (own := RX0) rfl (by decide +kernel) (fun w => [some (zr w κ), some (zi i), some (zi m)]) (fun _ => rfl) (fun _ => Nat.le_of_ble_eq_true rfl) ?_
  intro Γ h hr
  have h1 := hl.1
  have h2 := hl.2.1
  refine z_raload_n h dX0_add_0 rfl ?_
  refine y_get 3 h dX0_add_1 fX0_21 (zCy_o hc) rfl rfl ?_
  refine z_raload_n h dX0_add_4 rfl ?_
  refine z_getr h dX0_add_5 fX0_9 (zCy_o hc) rfl ?_
  refine y_alen 8 h dX0_add_8 (zCy_1 hc) (by decide) rfl ?_
  refine z_icmp_ge h dX0_add_9 (by omega) (by omega) (fun b9 => ?_) (fun b9 => ?_)
  · refine z_iconst h dX0_add_25 ?_
    refine z_irZ h hr dX0_add_26 (by first | decide | omega | simp_all) ?_
    exact Or.inr ⟨by omega, rfl, rfl⟩
  · refine z_iload_n h dX0_add_12 rfl ?_
    refine z_if_lt h dX0_add_13 (by omega) (fun b13 => ?_) (fun b13 => ?_)
    · refine z_iconst h dX0_add_25 ?_
      refine z_irZ h hr dX0_add_26 (by first | decide | omega | simp_all) ?_
      exact Or.inr ⟨by omega, rfl, rfl⟩
    · refine z_iload_n h dX0_add_16 rfl ?_
      refine z_raload_n h dX0_add_17 rfl ?_
      refine z_getr h dX0_add_18 fX0_18 (zCy_o hc) rfl ?_
      refine y_alen 100 h dX0_add_21 (zCy_3 hc) (by decide) rfl ?_
      refine z_icmp_lt h dX0_add_22 (by omega) (by omega) (fun b22 => ?_) (fun b22 => ?_)
      · refine z_raload_n h dX0_add_27 rfl ?_
        refine z_getr h dX0_add_28 fX0_9 (zCy_o hc) rfl ?_
        refine z_raload_n h dX0_add_31 rfl ?_
        refine y_get 3 h dX0_add_32 fX0_21 (zCy_o hc) rfl rfl ?_
        refine z_iload_n h dX0_add_35 rfl ?_
        refine z_iast h dX0_add_36 (zCy_1 hc) (by decide) (by omega) ?_
        refine z_raload_n h dX0_add_37 rfl ?_
        refine z_getr h dX0_add_38 fX0_15 (zCy_o hc) rfl ?_
        refine z_raload_n h dX0_add_41 rfl ?_
        refine y_get 3 h dX0_add_42 fX0_21 (zCy_o hc) rfl rfl ?_
        try simp (disch := omega) only [zup_eq, zup_ne, zup_nei]
        refine z_iload_n h dX0_add_45 rfl ?_
        refine z_iast h dX0_add_46 (zCy_2 hc) (by decide) (by omega) ?_
        refine z_raload_n h dX0_add_47 rfl ?_
        refine z_getr h dX0_add_48 fX0_18 (zCy_o hc) rfl ?_
        refine z_iload_n h dX0_add_51 rfl ?_
        refine z_dup2 h dX0_add_52 rfl rfl ?_
        refine z_iald h dX0_add_53 (zCy_3 hc) (by decide) (by omega) ?_
        try simp (disch := omega) only [zup_eq, zup_ne, zup_nei]
        refine z_iconst h dX0_add_54 ?_
        refine z_raload_n h dX0_add_55 rfl ?_
        refine y_get 3 h dX0_add_56 fX0_21 (zCy_o hc) rfl rfl ?_
        try simp (disch := omega) only [zup_eq, zup_ne, zup_nei]
        refine z_ishl h dX0_add_59 ?_
        refine z_ior h dX0_add_60 ?_
        refine z_iast h dX0_add_61 (zCy_3 hc) (by decide) (by omega) ?_
        refine z_raload_n h dX0_add_62 rfl ?_
        refine z_dup h dX0_add_63 rfl ?_
        refine y_get 3 h dX0_add_64 fX0_21 (zCy_o hc) rfl rfl ?_
        try simp (disch := omega) only [zup_eq, zup_ne, zup_nei]
        refine z_iconst h dX0_add_67 ?_
        refine z_iadd h dX0_add_68 ?_
        refine y_put 3 h dX0_add_69 fX0_21 pX0_3 (zCy_o hc) rfl rfl ?_
        refine z_iconst h dX0_add_72 ?_
        refine z_irZ h hr dX0_add_73 (by first | decide | omega | simp_all) ?_
        exact Or.inl ⟨by omega, by omega, by omega, rfl, cCry_add hl (by omega) (by omega), zfr_up (zfr_up (zfr_up (zfr_up zfr_rf (by omega) (by omega)) (by omega) (by omega)) (by omega) (by omega)) (by omega) (by omega)⟩
      · refine z_iconst h dX0_add_25 ?_
        refine z_irZ h hr dX0_add_26 (by first | decide | omega | simp_all) ?_
        exact Or.inr ⟨by omega, rfl, rfl⟩
theorem c_X0_dropLast (σ : zM) (κ : Nat) (hc : zCy κ) (l : List (Int × Int)) (hl : cCry σ κ l) : zCv mX0_dropLast (fun w => [zr w κ]) σ (fun σ' => cCry σ' κ l.dropLast ∧ zfr κ (κ + 3) σ σ') := by
  refine zCv_mk (own := RX0) rfl (by decide +kernel) (fun w => [some (zr w κ)]) (fun _ => rfl) (fun _ => Nat.le_of_ble_eq_true rfl) ?_
  intro Γ h hr
  have h1 := hl.1
  have h2 := hl.2.1
  rcases List.eq_nil_or_concat l with rfl | ⟨l', p, rfl⟩
  · simp only [List.length_nil] at h1 h2
    refine z_raload_n h dX0_dropLast_0 rfl ?_
    refine y_get 3 h dX0_dropLast_1 fX0_21 (zCy_o hc) rfl rfl ?_
    refine z_if_le h dX0_dropLast_4 (by omega) (fun b4 => ?_) (fun b4 => by exfalso; omega)
    refine z_irV h hr dX0_dropLast_42 ?_
    exact ⟨hl, zfr_rf⟩
  · simp only [List.concat_eq_append] at hl hr ⊢
    simp at h1 h2
    have hp := hl.2.2.1 l'.length p (by simp)
    have e2 : σ (κ + 2) (σ κ 3 - 1) = p.2 := by rw [h1, show (l'.length : Int) + 1 - 1 = l'.length by omega]; exact hp.2.1
    refine z_raload_n h dX0_dropLast_0 rfl ?_
    refine y_get 3 h dX0_dropLast_1 fX0_21 (zCy_o hc) rfl rfl ?_
    refine z_if_le h dX0_dropLast_4 (by omega) (fun b4 => by exfalso; omega) (fun b4 => ?_)
    refine z_raload_n h dX0_dropLast_7 rfl ?_
    refine z_dup h dX0_dropLast_8 rfl ?_
    refine y_get 3 h dX0_dropLast_9 fX0_21 (zCy_o hc) rfl rfl ?_
    refine z_iconst h dX0_dropLast_12 ?_
    refine z_isub h dX0_dropLast_13 ?_
    refine y_put 3 h dX0_dropLast_14 fX0_21 pX0_3 (zCy_o hc) rfl rfl ?_
    refine z_raload_n h dX0_dropLast_17 rfl ?_
    refine z_getr h dX0_dropLast_18 fX0_18 (zCy_o hc) rfl ?_
    refine z_raload_n h dX0_dropLast_21 rfl ?_
    refine z_getr h dX0_dropLast_22 fX0_15 (zCy_o hc) rfl ?_
    refine z_raload_n h dX0_dropLast_25 rfl ?_
    refine y_get 3 h dX0_dropLast_26 fX0_21 (zCy_o hc) rfl rfl ?_
    try simp (disch := omega) only [zup_eq, zup_ne, zup_nei]
    refine z_iald h dX0_dropLast_29 (zCy_2 hc) (by decide) (by omega) ?_
    try simp (disch := omega) only [zup_eq, zup_ne, zup_nei]
    refine z_dup2 h dX0_dropLast_30 rfl rfl ?_
    refine z_iald h dX0_dropLast_31 (zCy_3 hc) (by decide) (by omega) ?_
    try simp (disch := omega) only [zup_eq, zup_ne, zup_nei]
    refine z_iconst h dX0_dropLast_32 ?_
    refine z_raload_n h dX0_dropLast_33 rfl ?_
    refine y_get 3 h dX0_dropLast_34 fX0_21 (zCy_o hc) rfl rfl ?_
    try simp (disch := omega) only [zup_eq, zup_ne, zup_nei]
    refine z_ishl h dX0_dropLast_37 ?_
    refine z_iconst h dX0_dropLast_38 ?_
    refine z_ixor h dX0_dropLast_39 ?_
    refine z_iand h dX0_dropLast_40 ?_
    refine z_iast h dX0_dropLast_41 (zCy_3 hc) (by decide) (by omega) ?_
    refine z_irV h hr dX0_dropLast_42 ?_
    rw [e2, List.dropLast_concat]; exact ⟨cCry_drop hl, zfr_up (zfr_up zfr_rf (by omega) (by omega)) (by omega) (by omega)⟩
theorem c_X0_clear (σ : zM) (κ : Nat) (hc : zCy κ) (l : List (Int × Int)) (hl : cCry σ κ l) : zCv mX0_clear (fun w => [zr w κ]) σ (fun σ' => cCry σ' κ [] ∧ zfr κ (κ + 3) σ σ') := by
  refine zCv_mk (own := RX0) rfl (by decide +kernel) (fun w => [some (zr w κ), none]) (fun _ => rfl) (fun _ => Nat.le_of_ble_eq_true rfl) ?_
  intro Γ h hr
  have L : ∀ (n : Nat) (σ1 : zM) (l1 : List (Int × Int)), l1.length = n → cCry σ1 κ l1 → zfr κ (κ + 3) σ σ1 → zV Γ σ1 5 [some (zr (zw Γ) κ), some (zi n)] [] := by
    intro n
    induction n with
    | zero =>
      intro σ1 l1 hn h1 hf
      refine z_iload_n h dX0_clear_5 rfl ?_
      refine z_if_le h dX0_clear_6 (by omega) (fun b6 => ?_) (fun b6 => by exfalso; omega)
      refine z_irV h hr dX0_clear_19 ?_
      rw [List.length_eq_zero_iff.mp hn] at h1; exact ⟨h1, hf⟩
    | succ n ih =>
      intro σ1 l1 hn h1 hf
      have h2 := h1.2.1
      refine z_iload_n h dX0_clear_5 rfl ?_
      refine z_if_le h dX0_clear_6 (by omega) (fun b6 => by exfalso; omega) (fun b6 => ?_)
      refine z_raload_n h dX0_clear_9 rfl ?_
      refine z_cVv0 h dX0_clear_10 lX0_25 vX0_dropLast rfl (zCy_o hc) (c_X0_dropLast σ1 κ hc l1 h1) rfl (Nat.le_of_ble_eq_true rfl) (by decide) (fun σ2 h3 => ?_)
      refine z_iinc h dX0_clear_13 (by decide) rfl (zst1_1 rfl) ?_
      refine z_goto h dX0_clear_16 ?_
      rw [show ((n + 1 : Nat) : Int) + -1 = n by omega]; exact ih σ2 l1.dropLast (by simp [hn]) h3.1 (zfr_tr hf h3.2)
  have h1 := hl.1
  refine z_raload_n h dX0_clear_0 rfl ?_
  refine y_get 3 h dX0_clear_1 fX0_21 (zCy_o hc) rfl rfl ?_
  refine z_ist1_n h dX0_clear_4 (by decide) (zst1_1 rfl) ?_
  rw [h1]; exact L l.length σ l rfl hl zfr_rf
theorem c_X0_copyFrom (σ : zM) (κ κ' : Nat) (hc : zCy κ) (hc' : zCy κ') (hne : κ ≠ κ') (l l' : List (Int × Int)) (hl : cCry σ κ l) (hl' : cCry σ κ' l') : zCv mX0_copyFrom (fun w => [zr w κ, zr w κ']) σ (fun σ' => cCry σ' κ l' ∧ zfr κ (κ + 3) σ σ') := by
  refine zCv_mk (own := RX0) rfl (by decide +kernel) (fun w => [some (zr w κ), some (zr w κ'), none]) (fun _ => rfl) (fun _ => Nat.le_of_ble_eq_true rfl) ?_
  intro Γ h hr
  have hap : κ' + 3 < κ ∨ κ + 3 < κ' := by unfold zCy at hc hc'; omega
  have L : ∀ (n : Nat) (σ1 : zM) (c : Nat), c + n = l'.length → cCry σ1 κ (l'.take c) → zfr κ (κ + 3) σ σ1 → zV Γ σ1 6 [some (zr (zw Γ) κ), some (zr (zw Γ) κ'), some (zi c)] [] := by
    intro n
    induction n with
    | zero =>
      intro σ1 c hn h1 hf
      have h2 := (cCry_fr hl' (σ' := σ1) (fun c a b i => hf c (by omega) i))
      have h3 := h2.1
      have h4 := h2.2.1
      refine z_iload_n h dX0_copyFrom_6 rfl ?_
      refine z_raload_n h dX0_copyFrom_7 rfl ?_
      refine y_get 3 h dX0_copyFrom_8 fX0_21 (zCy_o hc') rfl rfl ?_
      refine z_icmp_ge h dX0_copyFrom_11 (by omega) (by omega) (fun b11 => ?_) (fun b11 => by exfalso; omega)
      refine z_irV h hr dX0_copyFrom_37 ?_
      rw [List.take_of_length_le (by omega)] at h1; exact ⟨h1, hf⟩
    | succ n ih =>
      intro σ1 c hn h1 hf
      have h2 := (cCry_fr hl' (σ' := σ1) (fun c a b i => hf c (by omega) i))
      have h3 := h2.1
      have h4 := h2.2.1
      have hlt : c < l'.length := by omega
      have h5 := h2.2.2.1 c l'[c] (List.getElem?_eq_getElem hlt)
      refine z_iload_n h dX0_copyFrom_6 rfl ?_
      refine z_raload_n h dX0_copyFrom_7 rfl ?_
      refine y_get 3 h dX0_copyFrom_8 fX0_21 (zCy_o hc') rfl rfl ?_
      refine z_icmp_ge h dX0_copyFrom_11 (by omega) (by omega) (fun b11 => by exfalso; omega) (fun b11 => ?_)
      refine z_raload_n h dX0_copyFrom_14 rfl ?_
      refine z_raload_n h dX0_copyFrom_15 rfl ?_
      refine z_getr h dX0_copyFrom_16 fX0_9 (zCy_o hc') rfl ?_
      refine z_iload_n h dX0_copyFrom_19 rfl ?_
      refine z_iald h dX0_copyFrom_20 (zCy_1 hc') (by decide) (by omega) ?_
      refine z_raload_n h dX0_copyFrom_21 rfl ?_
      refine z_getr h dX0_copyFrom_22 fX0_15 (zCy_o hc') rfl ?_
      refine z_iload_n h dX0_copyFrom_25 rfl ?_
      refine z_iald h dX0_copyFrom_26 (zCy_2 hc') (by decide) (by omega) ?_
      refine z_cVi2 h dX0_copyFrom_27 lX0_31 vX0_add rfl (zCy_o hc) (c_X0_add σ1 κ hc (l'.take c) _ _ (by omega) h1) rfl (Nat.le_of_ble_eq_true rfl) (by decide) (fun v σ2 h6 => ?_)
      refine z_pop h dX0_copyFrom_30 rfl ?_
      refine z_iinc h dX0_copyFrom_31 (by decide) rfl (zst1_2 rfl) ?_
      refine z_goto h dX0_copyFrom_34 ?_
      rcases h6 with ⟨-, -, -, -, h7, h8⟩ | ⟨h7, -⟩
      · rw [h5.1, h5.2.1] at h7
        rw [show (c : Int) + 1 = ((c + 1 : Nat) : Int) by omega]
        refine ih σ2 (c + 1) (by omega) ?_ (zfr_tr hf h8)
        rw [List.take_add_one, List.getElem?_eq_getElem hlt]
        exact h7
      · exfalso
        rw [List.length_take] at h7
        omega
  refine z_raload_n h dX0_copyFrom_0 rfl ?_
  refine z_cVv0 h dX0_copyFrom_1 lX0_28 vX0_clear rfl (zCy_o hc) (c_X0_clear σ κ hc l hl) rfl (Nat.le_of_ble_eq_true rfl) (by decide) (fun σ1 h1 => ?_)
  refine z_iconst h dX0_copyFrom_4 ?_
  refine z_ist1_n h dX0_copyFrom_5 (by decide) (zst1_2 rfl) ?_
  exact L l'.length σ1 0 (by omega) h1.1 h1.2
