/-- byte k of a long -/
def wB (v : Int) (k : Nat) : Int := (((Int64.ofInt v).toBitVec.toNat / 256 ^ k % 256 : Nat) : Int)
/-- the lowest n bytes, the highest of these first -/
def wBs (v : Int) : Nat → List Int
  | 0 => []
  | k + 1 => wB v k :: wBs v k
theorem wBs_len (v : Int) : ∀ n, (wBs v n).length = n
  | 0 => rfl
  | n + 1 => by simp [wBs, wBs_len v n]
theorem wB_rg (v : Int) (k : Nat) : 0 ≤ wB v k ∧ wB v k ≤ 255 := by unfold wB; omega
theorem wB_sh : ∀ k : Fin 8, ((Int32.ofInt (8 * ((k.val : Nat) : Int))).toInt64.toUInt64 &&& Int64.toUInt64 63).toNat % 64 = 8 * k.val := by decide +kernel
theorem wB_c {v : Int} {k : Nat} (hk : k < 8) : zi2b (zl2i (zlushr v (8 * k))) = zsb (wB v k) := by
  unfold zi2b zl2i zlushr
  rw [Int64.ofInt_toInt, Int32.ofInt_toInt, Int8.toInt_toInt32, Int32.toInt_toInt8, Int64.toInt_toInt32]
  have e4 : ∀ x : UInt64, x.toInt64.toInt = (x.toNat : Int).bmod 18446744073709551616 := by
    intro x
    show x.toBitVec.toInt = _
    rw [BitVec.toInt_eq_toNat_bmod]
    rfl
  rw [e4, UInt64.toNat_shiftRight, wB_sh ⟨k, hk⟩, Nat.shiftRight_eq_div_pow]
  have e6 : (Int64.ofInt v).toUInt64.toNat = (Int64.ofInt v).toBitVec.toNat := rfl
  rw [e6]
  unfold wB
  rw [show (256 : Nat) ^ k = 2 ^ (8 * k) by rw [Nat.pow_mul]]
  generalize (Int64.ofInt v).toBitVec.toNat / 2 ^ (8 * k) = u
  unfold zsb
  rw [Int.bmod_def, Int.bmod_def, Int.bmod_def]
  split <;> split <;> split <;> split <;> omega
def nWrite (S : zSt) (n v : Int) : zSt × Int := if 1 ≤ n ∧ n ≤ 8 then (if S.1.length + n ≤ 300 then ((S.1 ++ wBs v n.toNat, S.2), S.1.length + n) else (S, -3)) else (S, -1)
theorem cInv_text {σ σ' : zM} {S : zSt} (h : cInv σ S) (hf : zfr 1 2 σ σ') (tx : List Int) (ht : cText σ' tx) : cInv σ' (tx, S.2) := by
  obtain ⟨la, mu, h1, h2, h3, h4, ⟨l, h5⟩, h6, h7, h8, ⟨⟨l1, h9⟩, l2, h10⟩, h11, h12⟩ := h
  have p1 : 39 ≤ la ∧ 39 ≤ mu := by unfold zPl at h1; omega
  have f0 := hf 0 (by omega)
  exact ⟨la, mu, h1, by rw [f0, f0]; exact h2, ht, cPlan_fr h4 (fun c a b i => hf c (by omega) i), ⟨l, cCry_fr h5 (fun c a b i => hf c (by omega) i)⟩, by rw [f0]; exact h6, by rw [f0]; exact h7, fun k l hk => ⟨cCry_fr (h8 k l hk).1 (fun c a b i => hf c (by omega) i), (h8 k l hk).2⟩, ⟨⟨l1, cCry_fr h9 (fun c a b i => hf c (by omega) i)⟩, l2, cCry_fr h10 (fun c a b i => hf c (by omega) i)⟩, cNames_fr h11 (hf 27 (by omega) 2) (hf 27 (by omega) 3) (fun i => hf 28 (by omega) i) (fun i => hf 29 (by omega) i), h12⟩
theorem c_X7_write (σ : zM) (S : zSt) (hI : cInv σ S) (n v : Int) (hn : zok n) : zCi mX7_write (fun u => [zr u 0, zi n, zl v]) σ (fun r σ' => r = (nWrite S n v).2 ∧ zok r ∧ cInv σ' (nWrite S n v).1 ∧ zfr 0 56 σ σ') := by
  refine zCi_mk (own := RX7) rfl (by decide +kernel) (fun w => [some (zr w 0), some (zi n), some (zl v), none, none]) (fun _ => rfl) (fun _ => Nat.le_of_ble_eq_true rfl) ?_
  intro Γ h hr
  have hI0 := hI
  obtain ⟨la, mu, ⟨hla, hmu, hne⟩, ⟨e7, e8⟩, h3, hP, h5, h6, h7, h8, h9, h10, h11⟩ := hI
  have np10 := hP.2.2.2.2.2.1
  have hpi : 39 ≤ la := by unfold zPl at hla; omega
  have hap : la + 8 < mu ∨ mu + 8 < la := by unfold zPl at hla hmu; omega
  have hmi : 39 ≤ mu := by unfold zPl at hmu; omega
  unfold zok at hn
  have a5 := h3.1
  have a6 := h3.2.1
  have L : ∀ (k : Nat) (σ1 : zM) (tx1 : List Int), 1 ≤ n ∧ n ≤ 8 ∧ S.1.length + n ≤ 300 → k ≤ 8 → cText σ1 tx1 → tx1 ++ wBs v k = S.1 ++ wBs v n.toNat → zfr 1 2 σ σ1 → zV Γ σ1 39 [some (zr (zw Γ) 0), some (zi n), some (zl v), none, some (zi (8 * k - 8))] [] := by
    intro k
    induction k with
    | zero =>
      intro σ1 tx1 g0 g1 g2 g3 g4
      have b5 := g2.1
      have e : tx1 = S.1 ++ wBs v n.toNat := by rw [← g3]; simp [wBs]
      have el := congrArg List.length e
      rw [List.length_append, wBs_len] at el
      refine z_iload h dX7_write_39 rfl ?_
      refine z_if_lt h dX7_write_41 (by omega) (fun b41 => ?_) (fun b41 => by exfalso; omega)
      refine z_raload_n h dX7_write_63 rfl ?_
      refine z_getr h dX7_write_64 fX7_10 L0 rfl ?_
      refine y_get 2 h dX7_write_67 fX7_81 L1 rfl rfl ?_
      refine z_irI h hr dX7_write_70 ?_
      have hb : nWrite S n v = ((S.1 ++ wBs v n.toNat, S.2), S.1.length + n) := by (unfold nWrite; rw [if_pos (by omega), if_pos (by omega)])
      rw [hb]
      exact ⟨by show σ1 1 2 = S.1.length + n; omega, by unfold zok; omega, cInv_text hI0 g4 _ (e ▸ g2), zfr_mono g4 (by omega) (by omega)⟩
    | succ k ih =>
      intro σ1 tx1 g0 g1 g2 g3 g4
      have el := congrArg List.length g3
      rw [List.length_append, List.length_append, wBs_len, wBs_len] at el
      have ek : 8 * ((k + 1 : Nat) : Int) - 8 = 8 * k := by omega
      refine z_iload h dX7_write_39 rfl ?_
      refine z_if_lt h dX7_write_41 (by omega) (fun b41 => by exfalso; omega) (fun b41 => ?_)
      refine z_raload_n h dX7_write_44 rfl ?_
      refine z_getr h dX7_write_45 fX7_10 L0 rfl ?_
      refine z_lload_n h dX7_write_48 rfl ?_
      refine z_iload h dX7_write_49 rfl ?_
      refine z_lushr h dX7_write_51 ?_
      refine z_l2i h dX7_write_52 ?_
      refine z_i2b h dX7_write_53 ?_
      rw [ek, wB_c (by omega)]
      refine z_cVv1 h dX7_write_54 lX7_84 vX6_append rfl L1 (c_X6_append σ1 tx1 (wB v k) g2 (by omega) (wB_rg v k)) rfl (Nat.le_of_ble_eq_true rfl) (by decide) (fun σ2 g5 => ?_)
      refine z_iinc h dX7_write_57 (by decide) rfl (zst1_4 rfl) ?_
      refine z_goto h dX7_write_60 ?_
      rw [show 8 * (k : Int) + -8 = 8 * (k : Int) - 8 by omega]
      exact ih σ2 (tx1 ++ [wB v k]) g0 (by omega) g5.1 (by rw [← g3]; simp [wBs]) (zfr_tr g4 g5.2)
  refine z_iload_n h dX7_write_0 rfl ?_
  refine z_iconst h dX7_write_1 ?_
  refine z_icmp_lt h dX7_write_2 (by omega) (by omega) (fun b2 => ?_) (fun b2 => ?_)
  · refine z_iconst h dX7_write_11 ?_
    refine z_irI h hr dX7_write_12 ?_
    have hb : nWrite S n v = (S, -1) := if_neg (by omega)
    rw [hb]
    exact ⟨rfl, by unfold zok; omega, hI0, zfr_rf⟩
  · refine z_iload_n h dX7_write_5 rfl ?_
    refine z_bipush h dX7_write_6 (by decide) ?_
    refine z_icmp_le h dX7_write_8 (by omega) (by omega) (fun b8 => ?_) (fun b8 => ?_)
    · refine z_iload_n h dX7_write_13 rfl ?_
      refine z_sipush h dX7_write_14 (by decide) ?_
      refine z_raload_n h dX7_write_17 rfl ?_
      refine z_getr h dX7_write_18 fX7_10 L0 rfl ?_
      refine y_get 2 h dX7_write_21 fX7_81 L1 rfl rfl ?_
      refine z_isub h dX7_write_24 ?_
      refine z_icmp_le h dX7_write_25 (by omega) (by omega) (fun b25 => ?_) (fun b25 => ?_)
      · refine z_bipush h dX7_write_31 (by decide) ?_
        refine z_iload_n h dX7_write_33 rfl ?_
        refine z_iconst h dX7_write_34 ?_
        refine z_isub h dX7_write_35 ?_
        refine z_imul h dX7_write_36 ?_
        refine z_ist1 h dX7_write_37 (by decide) (zst1_4 rfl) ?_
        rw [show 8 * (n - 1) = 8 * ((n.toNat : Nat) : Int) - 8 by omega]
        exact L n.toNat σ S.1 (by omega) (by omega) h3 rfl zfr_rf
      · refine z_bipush h dX7_write_28 (by decide) ?_
        refine z_irI h hr dX7_write_30 ?_
        have hb : nWrite S n v = (S, -3) := by (unfold nWrite; rw [if_pos (by omega), if_neg (by omega)])
        rw [hb]
        exact ⟨rfl, by unfold zok; omega, hI0, zfr_rf⟩
    · refine z_iconst h dX7_write_11 ?_
      refine z_irI h hr dX7_write_12 ?_
      have hb : nWrite S n v = (S, -1) := if_neg (by omega)
      rw [hb]
      exact ⟨rfl, by unfold zok; omega, hI0, zfr_rf⟩
def nKeep (S : zSt) : zSt × Int := if S.2.2.2.1.length < 2 then ((S.1, S.2.1, S.2.2.1, S.2.2.2.1 ++ [S.2.1.2.1], S.2.2.2.2), (S.2.2.2.1.length : Int) + 1) else (S, -3)
theorem cInv_keep {σ σ' : zM} {S : zSt} {la mu : Nat} (hlm : zPl la ∧ zPl mu ∧ la ≠ mu) (k : Nat) (hk : S.2.2.2.1.length = k) (hk2 : k < 2) (e78 : σ' 0 7 = la ∧ σ' 0 8 = mu) (hf : ∀ c, c ≠ 0 → (c < 31 + 4 * k ∨ 31 + 4 * k + 3 < c) → ∀ i, σ' c i = σ c i) (h3 : cText σ S.1) (hP : cPlan σ la S.2.1) (h5 : ∃ l, cCry σ (mu + 5) l) (h6 : σ' 0 9 = S.2.2.1 ∧ S.2.2.1 ≤ S.2.1.2.1.length) (h7 : σ' 0 6 = (S.2.2.2.1.length : Int) + 1) (h8 : ∀ (k : Nat) l, S.2.2.2.1[k]? = some l → cCry σ (31 + 4 * k) l ∧ ∀ c ∈ l, 0 ≤ c.1 ∧ c.1 < S.2.1.1.length) (h9 : (∃ l, cCry σ' 31 l) ∧ ∃ l, cCry σ' 35 l) (h10 : cNames σ S.2.2.2.2.1 S.2.2.2.2.2) (h11 : 1 ≤ S.2.1.1.length) (hn : cCry σ' (31 + 4 * k) S.2.1.2.1) : cInv σ' (S.1, S.2.1, S.2.2.1, S.2.2.2.1 ++ [S.2.1.2.1], S.2.2.2.2) := by
  obtain ⟨l, h5⟩ := h5
  have p1 : 39 ≤ la ∧ 39 ≤ mu := by unfold zPl at hlm; omega
  refine ⟨la, mu, hlm, e78, cText_fr h3 (hf 1 (by omega) (by omega) 2) (fun i => hf 2 (by omega) (by omega) i) (fun i a b => by rw [hf 3 (by omega) (by omega)]; exact h3.2.2.2 i a b), cPlan_fr hP (fun c a b i => hf c (by omega) (by omega) i), ⟨l, cCry_fr h5 (fun c a b i => hf c (by omega) (by omega) i)⟩, h6, ⟨by rw [h7]; simp, by simp; omega⟩, fun k' l' hk' => ?_, h9, cNames_fr h10 (hf 27 (by omega) (by omega) 2) (hf 27 (by omega) (by omega) 3) (fun i => hf 28 (by omega) (by omega) i) (fun i => hf 29 (by omega) (by omega) i), h11⟩
  have hk' : (S.2.2.2.1 ++ [S.2.1.2.1])[k']? = some l' := hk'
  by_cases e : k' < S.2.2.2.1.length
  · rw [List.getElem?_append_left e] at hk'
    have := h8 k' l' hk'
    exact ⟨cCry_fr this.1 (fun c a b i => hf c (by omega) (by omega) i), this.2⟩
  · have e2 := (List.getElem?_eq_some_iff.mp hk').1
    simp at e2
    have e3 : k' = S.2.2.2.1.length := by omega
    subst e3
    simp at hk'
    subst hk'
    rw [hk]
    exact ⟨hn, hP.2.2.2.2.2.2.2.1⟩
theorem c_X7_keep (σ : zM) (S : zSt) (hI : cInv σ S) : zCi mX7_keep (fun u => [zr u 0]) σ (fun r σ' => r = (nKeep S).2 ∧ zok r ∧ cInv σ' (nKeep S).1 ∧ zfr 0 56 σ σ') := by
  refine zCi_mk (own := RX7) rfl (by decide +kernel) (fun w => [some (zr w 0)]) (fun _ => rfl) (fun _ => Nat.le_of_ble_eq_true rfl) ?_
  intro Γ h hr
  have hI0 := hI
  obtain ⟨la, mu, ⟨hla, hmu, hne⟩, ⟨e7, e8⟩, h3, hP, h5, h6, h7, h8, h9, h10, h11⟩ := hI
  have np10 := hP.2.2.2.2.2.1
  have hpi : 39 ≤ la := by unfold zPl at hla; omega
  have hap : la + 8 < mu ∨ mu + 8 < la := by unfold zPl at hla hmu; omega
  have hmi : 39 ≤ mu := by unfold zPl at hmu; omega
  have h6a := h6.1
  have h7a := h7.1
  have h7b := h7.2
  obtain ⟨⟨l1, h9⟩, l2, h9'⟩ := h9

  by_cases z0 : S.2.2.2.1.length = 0
  · have hb : nKeep S = ((S.1, S.2.1, S.2.2.1, S.2.2.2.1 ++ [S.2.1.2.1], S.2.2.2.2), (S.2.2.2.1.length : Int) + 1) := if_pos (by omega)
    have e6 : σ 0 6 = 0 := by omega
    refine z_raload_n h dX7_keep_0 rfl ?_
    refine y_get 6 h dX7_keep_1 fX7_49 L0 rfl rfl ?_
    refine z_iconst h dX7_keep_4 ?_
    refine z_icmp_lt h dX7_keep_5 (by omega) (by omega) (fun b5 => ?_) (fun b5 => by exfalso; omega)
    refine z_raload_n h dX7_keep_11 rfl ?_
    refine z_getr h dX7_keep_12 fX7_45 L0 rfl ?_
    refine z_raload_n h dX7_keep_15 rfl ?_
    refine y_get 6 h dX7_keep_16 fX7_49 L0 rfl rfl ?_
    rw [e6]
    refine z_aald h dX7_keep_19 L30 (by decide) (by omega) (by rfl) ?_
    refine z_raload_n h dX7_keep_20 rfl ?_
    refine y_getd 7 h dX7_keep_21 fX7_56 L0 rfl rfl e7 ?_
    refine z_getr h dX7_keep_24 fX7_71 (zPl_o hla) rfl ?_
    refine z_cVv1 h dX7_keep_27 lX7_253 vX0_copyFrom rfl L31 (c_X0_copyFrom σ 31 (la + 5) (by simp [zCy]) (zPl_c hla) (by omega) l1 S.2.1.2.1 h9 hP.2.2.2.1) rfl (Nat.le_of_ble_eq_true rfl) (by decide) (fun σ1 g1 => ?_)
    have g2 : ∀ c, (c < 31 ∨ 34 < c) → ∀ i, σ1 c i = σ c i := fun c hc i => g1.2 c (by omega) i
    have g3 := g2 0 (by omega) 6
    refine z_raload_n h dX7_keep_30 rfl ?_
    refine z_dup h dX7_keep_31 rfl ?_
    refine y_get 6 h dX7_keep_32 fX7_49 L0 rfl rfl ?_
    refine z_iconst h dX7_keep_35 ?_
    refine z_iadd h dX7_keep_36 ?_
    refine y_put 6 h dX7_keep_37 fX7_49 pX7_6 L0 rfl rfl ?_
    refine z_raload_n h dX7_keep_40 rfl ?_
    refine y_get 6 h dX7_keep_41 fX7_49 L0 rfl rfl ?_
    try simp (disch := omega) only [zup_eq, zup_ne, zup_nei]
    refine z_irI h hr dX7_keep_44 ?_
    rw [hb]
    refine ⟨by show _ = (S.2.2.2.1.length : Int) + 1; omega, by unfold zok; omega, cInv_keep (σ := σ) (la := la) (mu := mu) ⟨hla, hmu, hne⟩ 0 z0 (by omega) ⟨?_, ?_⟩ (fun c c0 hc i => ?_) h3 hP h5 ⟨?_, h6.2⟩ ?_ h8 ⟨?_, ?_⟩ h10 h11 ?_, zfr_up (zfr_mono g1.2 (by omega) (by omega)) (by omega) (by omega)⟩
    · rw [zup_nei (by omega), g2 0 (by omega)]; exact e7
    · rw [zup_nei (by omega), g2 0 (by omega)]; exact e8
    · rw [zup_ne c0]; exact g2 c (by omega) i
    · rw [zup_nei (by omega), g2 0 (by omega)]; exact h6.1
    · rw [zup_eq]; omega
    · first
        | exact ⟨_, cCry_fr g1.1 (fun c a b i => zup_ne (by omega))⟩
        | exact ⟨_, cCry_fr h9 (fun c a b i => by rw [zup_ne (by omega)]; exact g2 c (by omega) i)⟩
    · first
        | exact ⟨_, cCry_fr g1.1 (fun c a b i => zup_ne (by omega))⟩
        | exact ⟨_, cCry_fr h9' (fun c a b i => by rw [zup_ne (by omega)]; exact g2 c (by omega) i)⟩
    · exact cCry_fr g1.1 (fun c a b i => zup_ne (by omega))
  by_cases z1 : S.2.2.2.1.length = 1
  · have hb : nKeep S = ((S.1, S.2.1, S.2.2.1, S.2.2.2.1 ++ [S.2.1.2.1], S.2.2.2.2), (S.2.2.2.1.length : Int) + 1) := if_pos (by omega)
    have e6 : σ 0 6 = 1 := by omega
    refine z_raload_n h dX7_keep_0 rfl ?_
    refine y_get 6 h dX7_keep_1 fX7_49 L0 rfl rfl ?_
    refine z_iconst h dX7_keep_4 ?_
    refine z_icmp_lt h dX7_keep_5 (by omega) (by omega) (fun b5 => ?_) (fun b5 => by exfalso; omega)
    refine z_raload_n h dX7_keep_11 rfl ?_
    refine z_getr h dX7_keep_12 fX7_45 L0 rfl ?_
    refine z_raload_n h dX7_keep_15 rfl ?_
    refine y_get 6 h dX7_keep_16 fX7_49 L0 rfl rfl ?_
    rw [e6]
    refine z_aald h dX7_keep_19 L30 (by decide) (by omega) (by rfl) ?_
    refine z_raload_n h dX7_keep_20 rfl ?_
    refine y_getd 7 h dX7_keep_21 fX7_56 L0 rfl rfl e7 ?_
    refine z_getr h dX7_keep_24 fX7_71 (zPl_o hla) rfl ?_
    refine z_cVv1 h dX7_keep_27 lX7_253 vX0_copyFrom rfl L35 (c_X0_copyFrom σ 35 (la + 5) (by simp [zCy]) (zPl_c hla) (by omega) l2 S.2.1.2.1 h9' hP.2.2.2.1) rfl (Nat.le_of_ble_eq_true rfl) (by decide) (fun σ1 g1 => ?_)
    have g2 : ∀ c, (c < 35 ∨ 38 < c) → ∀ i, σ1 c i = σ c i := fun c hc i => g1.2 c (by omega) i
    have g3 := g2 0 (by omega) 6
    refine z_raload_n h dX7_keep_30 rfl ?_
    refine z_dup h dX7_keep_31 rfl ?_
    refine y_get 6 h dX7_keep_32 fX7_49 L0 rfl rfl ?_
    refine z_iconst h dX7_keep_35 ?_
    refine z_iadd h dX7_keep_36 ?_
    refine y_put 6 h dX7_keep_37 fX7_49 pX7_6 L0 rfl rfl ?_
    refine z_raload_n h dX7_keep_40 rfl ?_
    refine y_get 6 h dX7_keep_41 fX7_49 L0 rfl rfl ?_
    try simp (disch := omega) only [zup_eq, zup_ne, zup_nei]
    refine z_irI h hr dX7_keep_44 ?_
    rw [hb]
    refine ⟨by show _ = (S.2.2.2.1.length : Int) + 1; omega, by unfold zok; omega, cInv_keep (σ := σ) (la := la) (mu := mu) ⟨hla, hmu, hne⟩ 1 z1 (by omega) ⟨?_, ?_⟩ (fun c c0 hc i => ?_) h3 hP h5 ⟨?_, h6.2⟩ ?_ h8 ⟨?_, ?_⟩ h10 h11 ?_, zfr_up (zfr_mono g1.2 (by omega) (by omega)) (by omega) (by omega)⟩
    · rw [zup_nei (by omega), g2 0 (by omega)]; exact e7
    · rw [zup_nei (by omega), g2 0 (by omega)]; exact e8
    · rw [zup_ne c0]; exact g2 c (by omega) i
    · rw [zup_nei (by omega), g2 0 (by omega)]; exact h6.1
    · rw [zup_eq]; omega
    · first
        | exact ⟨_, cCry_fr g1.1 (fun c a b i => zup_ne (by omega))⟩
        | exact ⟨_, cCry_fr h9 (fun c a b i => by rw [zup_ne (by omega)]; exact g2 c (by omega) i)⟩
    · first
        | exact ⟨_, cCry_fr g1.1 (fun c a b i => zup_ne (by omega))⟩
        | exact ⟨_, cCry_fr h9' (fun c a b i => by rw [zup_ne (by omega)]; exact g2 c (by omega) i)⟩
    · exact cCry_fr g1.1 (fun c a b i => zup_ne (by omega))
  have hb : nKeep S = (S, -3) := if_neg (by omega)
  refine z_raload_n h dX7_keep_0 rfl ?_
  refine y_get 6 h dX7_keep_1 fX7_49 L0 rfl rfl ?_
  refine z_iconst h dX7_keep_4 ?_
  refine z_icmp_lt h dX7_keep_5 (by omega) (by omega) (fun b5 => by exfalso; omega) (fun b5 => ?_)
  refine z_bipush h dX7_keep_8 (by decide) ?_
  refine z_irI h hr dX7_keep_10 ?_
  rw [hb]
  exact ⟨rfl, by unfold zok; omega, hI0, zfr_rf⟩
def nBack (S : zSt) : zSt × Int := match S.2.2.2.1.getLast? with
  | some l => ((S.1, (S.2.1.1, l, S.2.1.2.2), l.length, S.2.2.2.1.dropLast, S.2.2.2.2), (S.2.2.2.1.length : Int) - 1)
  | none => (S, -2)
theorem c_X7_back (σ : zM) (S : zSt) (hI : cInv σ S) : zCi mX7_back (fun u => [zr u 0]) σ (fun r σ' => r = (nBack S).2 ∧ zok r ∧ cInv σ' (nBack S).1 ∧ zfr 0 56 σ σ') := by
  refine zCi_mk (own := RX7) rfl (by decide +kernel) (fun w => [some (zr w 0)]) (fun _ => rfl) (fun _ => Nat.le_of_ble_eq_true rfl) ?_
  intro Γ h hr
  have hI0 := hI
  obtain ⟨la, mu, ⟨hla, hmu, hne⟩, ⟨e7, e8⟩, h3, hP, h5, h6, h7, h8, h9, h10, h11⟩ := hI
  have np10 := hP.2.2.2.2.2.1
  have hpi : 39 ≤ la := by unfold zPl at hla; omega
  have hap : la + 8 < mu ∨ mu + 8 < la := by unfold zPl at hla hmu; omega
  have hmi : 39 ≤ mu := by unfold zPl at hmu; omega
  have h6a := h6.1
  have h7a := h7.1
  have h7b := h7.2

  by_cases z0 : S.2.2.2.1.length = 1
  · have hlt : 0 < S.2.2.2.1.length := by omega
    have hx := List.getElem?_eq_getElem hlt
    obtain ⟨l, hle⟩ : ∃ l, l = S.2.2.2.1[0] := ⟨_, rfl⟩
    rw [← hle] at hx
    have hx8 := h8 0 l hx
    have hlast : S.2.2.2.1.getLast? = some l := by rw [List.getLast?_eq_getElem?, z0]; exact hx
    have hb : nBack S = ((S.1, (S.2.1.1, l, S.2.1.2.2), l.length, S.2.2.2.1.dropLast, S.2.2.2.2), (S.2.2.2.1.length : Int) - 1) := by unfold nBack; rw [hlast]
    have e6 : σ 0 6 = 1 := by omega
    refine z_raload_n h dX7_back_0 rfl ?_
    refine y_get 6 h dX7_back_1 fX7_49 L0 rfl rfl ?_
    refine z_if_gt h dX7_back_4 (by omega) (fun b4 => ?_) (fun b4 => by exfalso; omega)
    refine z_raload_n h dX7_back_10 rfl ?_
    refine z_dup h dX7_back_11 rfl ?_
    refine y_get 6 h dX7_back_12 fX7_49 L0 rfl rfl ?_
    refine z_iconst h dX7_back_15 ?_
    refine z_isub h dX7_back_16 ?_
    refine y_put 6 h dX7_back_17 fX7_49 pX7_6 L0 rfl rfl ?_
    refine z_raload_n h dX7_back_20 rfl ?_
    refine y_getd 7 h dX7_back_21 fX7_56 L0 rfl rfl (by rw [zup_nei (by omega)]; exact e7) ?_
    refine z_getr h dX7_back_24 fX7_71 (zPl_o hla) rfl ?_
    refine z_raload_n h dX7_back_27 rfl ?_
    refine z_getr h dX7_back_28 fX7_45 L0 rfl ?_
    refine z_raload_n h dX7_back_31 rfl ?_
    refine y_get 6 h dX7_back_32 fX7_49 L0 rfl rfl ?_
    try simp (disch := omega) only [zup_eq, zup_ne, zup_nei]
    rw [show σ 0 6 - 1 = 0 by omega]
    refine z_aald h dX7_back_35 L30 (by decide) (by omega) (by rfl) ?_
    refine z_cVv1 h dX7_back_36 lX7_253 vX0_copyFrom rfl (zCy_o (zPl_c hla)) (c_X0_copyFrom (zup σ 0 6 0) (la + 5) 31 (zPl_c hla) (by simp [zCy]) (by omega) S.2.1.2.1 l (cCry_fr hP.2.2.2.1 (fun c a b i => zup_ne (by omega))) (cCry_fr hx8.1 (fun c a b i => zup_ne (by omega)))) rfl (Nat.le_of_ble_eq_true rfl) (by decide) (fun σ1 g1 => ?_)
    have g2 : ∀ c, (c < la + 5 ∨ la + 8 < c) → ∀ i, σ1 c i = zup σ 0 6 0 c i := fun c hc i => g1.2 c (by omega) i
    have g4 : σ1 0 6 = 0 := by (rw [g2 0 (by omega), zup_eq])
    have g5 := g1.1.1
    have g6 := g1.1.2.1
    refine z_raload_n h dX7_back_39 rfl ?_
    refine z_raload_n h dX7_back_40 rfl ?_
    refine y_getd 7 h dX7_back_41 fX7_56 L0 rfl rfl (by rw [g2 0 (by omega), zup_nei (by omega)]; exact e7) ?_
    refine z_getr h dX7_back_44 fX7_71 (zPl_o hla) rfl ?_
    refine y_get 3 h dX7_back_47 fX7_75 (zCy_o (zPl_c hla)) rfl rfl ?_
    refine y_put 9 h dX7_back_50 fX7_78 pX7_9 L0 rfl rfl ?_
    refine z_raload_n h dX7_back_53 rfl ?_
    refine y_get 6 h dX7_back_54 fX7_49 L0 rfl rfl ?_
    try simp (disch := omega) only [zup_eq, zup_ne, zup_nei]
    refine z_irI h hr dX7_back_57 ?_
    rw [hb]
    refine ⟨by show _ = (S.2.2.2.1.length : Int) - 1; omega, by unfold zok; omega, cInv_laid (σ := σ) (S := S) (la := la) (mu := mu) ⟨hla, hmu, hne⟩ ⟨?_, ?_⟩ (fun c c0 hc i => ?_) h3 h5 h9 h10 (S.2.1.1, l, S.2.1.2.2) (cPlan_cries hP (fun c a b i => ?_) l ?_ hx8.2) l.length ⟨?_, Nat.le_refl _⟩ _ ⟨?_, ?_⟩ (fun k' l' hk' => ?_) h11, ?_⟩
    · rw [zup_nei (by omega), g2 0 (by omega), zup_nei (by omega)]; exact e7
    · rw [zup_nei (by omega), g2 0 (by omega), zup_nei (by omega)]; exact e8
    · rw [zup_ne c0, g2 c (by omega), zup_ne c0]
    · rw [zup_ne (by omega), g2 c (by omega), zup_ne (by omega)]
    · exact cCry_fr g1.1 (fun c a b i => zup_ne (by omega))
    · rw [zup_eq]; exact g5
    · rw [zup_nei (by omega), List.length_dropLast]; omega
    · rw [List.length_dropLast]; omega
    · rw [List.getElem?_dropLast] at hk'
      split at hk'
      · exact h8 k' l' hk'
      · cases hk'
    · refine zfr_up (fun c hc i => ?_) (by omega) (by omega)
      rw [g2 c (by unfold zPl at hla; omega), zup_ne (by omega)]
  by_cases z1 : S.2.2.2.1.length = 2
  · have hlt : 1 < S.2.2.2.1.length := by omega
    have hx := List.getElem?_eq_getElem hlt
    obtain ⟨l, hle⟩ : ∃ l, l = S.2.2.2.1[1] := ⟨_, rfl⟩
    rw [← hle] at hx
    have hx8 := h8 1 l hx
    have hlast : S.2.2.2.1.getLast? = some l := by rw [List.getLast?_eq_getElem?, z1]; exact hx
    have hb : nBack S = ((S.1, (S.2.1.1, l, S.2.1.2.2), l.length, S.2.2.2.1.dropLast, S.2.2.2.2), (S.2.2.2.1.length : Int) - 1) := by unfold nBack; rw [hlast]
    have e6 : σ 0 6 = 2 := by omega
    refine z_raload_n h dX7_back_0 rfl ?_
    refine y_get 6 h dX7_back_1 fX7_49 L0 rfl rfl ?_
    refine z_if_gt h dX7_back_4 (by omega) (fun b4 => ?_) (fun b4 => by exfalso; omega)
    refine z_raload_n h dX7_back_10 rfl ?_
    refine z_dup h dX7_back_11 rfl ?_
    refine y_get 6 h dX7_back_12 fX7_49 L0 rfl rfl ?_
    refine z_iconst h dX7_back_15 ?_
    refine z_isub h dX7_back_16 ?_
    refine y_put 6 h dX7_back_17 fX7_49 pX7_6 L0 rfl rfl ?_
    refine z_raload_n h dX7_back_20 rfl ?_
    refine y_getd 7 h dX7_back_21 fX7_56 L0 rfl rfl (by rw [zup_nei (by omega)]; exact e7) ?_
    refine z_getr h dX7_back_24 fX7_71 (zPl_o hla) rfl ?_
    refine z_raload_n h dX7_back_27 rfl ?_
    refine z_getr h dX7_back_28 fX7_45 L0 rfl ?_
    refine z_raload_n h dX7_back_31 rfl ?_
    refine y_get 6 h dX7_back_32 fX7_49 L0 rfl rfl ?_
    try simp (disch := omega) only [zup_eq, zup_ne, zup_nei]
    rw [show σ 0 6 - 1 = 1 by omega]
    refine z_aald h dX7_back_35 L30 (by decide) (by omega) (by rfl) ?_
    refine z_cVv1 h dX7_back_36 lX7_253 vX0_copyFrom rfl (zCy_o (zPl_c hla)) (c_X0_copyFrom (zup σ 0 6 1) (la + 5) 35 (zPl_c hla) (by simp [zCy]) (by omega) S.2.1.2.1 l (cCry_fr hP.2.2.2.1 (fun c a b i => zup_ne (by omega))) (cCry_fr hx8.1 (fun c a b i => zup_ne (by omega)))) rfl (Nat.le_of_ble_eq_true rfl) (by decide) (fun σ1 g1 => ?_)
    have g2 : ∀ c, (c < la + 5 ∨ la + 8 < c) → ∀ i, σ1 c i = zup σ 0 6 1 c i := fun c hc i => g1.2 c (by omega) i
    have g4 : σ1 0 6 = 1 := by (rw [g2 0 (by omega), zup_eq])
    have g5 := g1.1.1
    have g6 := g1.1.2.1
    refine z_raload_n h dX7_back_39 rfl ?_
    refine z_raload_n h dX7_back_40 rfl ?_
    refine y_getd 7 h dX7_back_41 fX7_56 L0 rfl rfl (by rw [g2 0 (by omega), zup_nei (by omega)]; exact e7) ?_
    refine z_getr h dX7_back_44 fX7_71 (zPl_o hla) rfl ?_
    refine y_get 3 h dX7_back_47 fX7_75 (zCy_o (zPl_c hla)) rfl rfl ?_
    refine y_put 9 h dX7_back_50 fX7_78 pX7_9 L0 rfl rfl ?_
    refine z_raload_n h dX7_back_53 rfl ?_
    refine y_get 6 h dX7_back_54 fX7_49 L0 rfl rfl ?_
    try simp (disch := omega) only [zup_eq, zup_ne, zup_nei]
    refine z_irI h hr dX7_back_57 ?_
    rw [hb]
    refine ⟨by show _ = (S.2.2.2.1.length : Int) - 1; omega, by unfold zok; omega, cInv_laid (σ := σ) (S := S) (la := la) (mu := mu) ⟨hla, hmu, hne⟩ ⟨?_, ?_⟩ (fun c c0 hc i => ?_) h3 h5 h9 h10 (S.2.1.1, l, S.2.1.2.2) (cPlan_cries hP (fun c a b i => ?_) l ?_ hx8.2) l.length ⟨?_, Nat.le_refl _⟩ _ ⟨?_, ?_⟩ (fun k' l' hk' => ?_) h11, ?_⟩
    · rw [zup_nei (by omega), g2 0 (by omega), zup_nei (by omega)]; exact e7
    · rw [zup_nei (by omega), g2 0 (by omega), zup_nei (by omega)]; exact e8
    · rw [zup_ne c0, g2 c (by omega), zup_ne c0]
    · rw [zup_ne (by omega), g2 c (by omega), zup_ne (by omega)]
    · exact cCry_fr g1.1 (fun c a b i => zup_ne (by omega))
    · rw [zup_eq]; exact g5
    · rw [zup_nei (by omega), List.length_dropLast]; omega
    · rw [List.length_dropLast]; omega
    · rw [List.getElem?_dropLast] at hk'
      split at hk'
      · exact h8 k' l' hk'
      · cases hk'
    · refine zfr_up (fun c hc i => ?_) (by omega) (by omega)
      rw [g2 c (by unfold zPl at hla; omega), zup_ne (by omega)]
  have z : S.2.2.2.1 = [] := List.length_eq_zero_iff.mp (by omega)
  have hb : nBack S = (S, -2) := by unfold nBack; rw [z]; rfl
  rw [z] at h7a
  simp only [List.length_nil] at h7a
  refine z_raload_n h dX7_back_0 rfl ?_
  refine y_get 6 h dX7_back_1 fX7_49 L0 rfl rfl ?_
  refine z_if_gt h dX7_back_4 (by omega) (fun b4 => by exfalso; omega) (fun b4 => ?_)
  refine z_bipush h dX7_back_7 (by decide) ?_
  refine z_irI h hr dX7_back_9 ?_
  rw [hb]
  exact ⟨rfl, by unfold zok; omega, hI0, zfr_rf⟩
