theorem cPlan_cries {σ σ' : zM} {π : Nat} {P : zP} (hP : cPlan σ π P) (hf : ∀ c, π ≤ c → c ≤ π + 4 → ∀ i, σ' c i = σ c i) (l : List (Int × Int)) (hl : cCry σ' (π + 5) l) (hw : ∀ c ∈ l, 0 ≤ c.1 ∧ c.1 < P.1.length) : cPlan σ' π (P.1, l, P.2.2) := by
  obtain ⟨q1, q2, q3, q4, q5, q6, q7, q8, q9⟩ := hP
  refine ⟨by rw [hf π (by omega) (by omega)]; exact q1, fun k p hk => ?_, fun k x hk => ?_, hl, ?_, ⟨q6, q7, hw, q9⟩⟩
  · rw [hf (π + 1) (by omega) (by omega), hf (π + 2) (by omega) (by omega), hf (π + 3) (by omega) (by omega)]; exact q2 k p hk
  · rw [hf (π + 4) (by omega) (by omega)]; exact q3 k x hk
  · simp only [hf π (by omega) (by omega)]; exact q5
/-- the class, when only what is LAID and the numbers of cell 0 have changed -/
theorem cInv_laid {σ σ' : zM} {S : zSt} {la mu : Nat} (hlm : zPl la ∧ zPl mu ∧ la ≠ mu) (e78 : σ' 0 7 = la ∧ σ' 0 8 = mu) (hf : ∀ c, c ≠ 0 → (c < la ∨ la + 8 < c) → ∀ i, σ' c i = σ c i) (h3 : cText σ S.1) (h5 : ∃ l, cCry σ (mu + 5) l) (h9 : (∃ l, cCry σ 31 l) ∧ ∃ l, cCry σ 35 l) (h10 : cNames σ S.2.2.2.2.1 S.2.2.2.2.2) (P' : zP) (hP : cPlan σ' la P') (fx : Nat) (h6 : σ' 0 9 = fx ∧ fx ≤ P'.2.1.length) (kp : List (List (Int × Int))) (h7 : σ' 0 6 = kp.length ∧ kp.length ≤ 2) (h8 : ∀ (k : Nat) l, kp[k]? = some l → cCry σ (31 + 4 * k) l ∧ ∀ c ∈ l, 0 ≤ c.1 ∧ c.1 < P'.1.length) (h11 : 1 ≤ P'.1.length) : cInv σ' (S.1, P', fx, kp, S.2.2.2.2) := by
  obtain ⟨l, h5⟩ := h5
  obtain ⟨⟨l1, h9⟩, l2, h9'⟩ := h9
  have p1 : 39 ≤ la ∧ 39 ≤ mu ∧ (la + 8 < mu ∨ mu + 8 < la) := by unfold zPl at hlm; omega
  exact ⟨la, mu, hlm, e78, cText_fr h3 (hf 1 (by omega) (by omega) 2) (fun i => hf 2 (by omega) (by omega) i) (fun i a b => by rw [hf 3 (by omega) (by omega)]; exact h3.2.2.2 i a b), hP, ⟨l, cCry_fr h5 (fun c a b i => hf c (by omega) (by omega) i)⟩, h6, h7, fun k l hk => ⟨cCry_fr (h8 k l hk).1 (fun c a b i => hf c (by omega) (by have hkl : k < kp.length := (List.getElem?_eq_some_iff.mp hk).1; omega) i), (h8 k l hk).2⟩, ⟨⟨l1, cCry_fr h9 (fun c a b i => hf c (by omega) (by omega) i)⟩, l2, cCry_fr h9' (fun c a b i => hf c (by omega) (by omega) i)⟩, cNames_fr h10 (hf 27 (by omega) (by omega) 2) (hf 27 (by omega) (by omega) 3) (fun i => hf 28 (by omega) (by omega) i) (fun i => hf 29 (by omega) (by omega) i), h11⟩
def nTell (S : zSt) (i m : Int) : zSt × Int := if pK S.2.1 i = 1 ∧ 0 ≤ m ∧ m ≤ 99 then (if S.2.1.2.1.length < 8 then ((S.1, (S.2.1.1, S.2.1.2.1 ++ [(i, m)], S.2.1.2.2), S.2.2), (S.2.1.2.1.length : Int) + 1) else (S, -3)) else (S, -1)
theorem c_X7_tell (σ : zM) (S : zSt) (hI : cInv σ S) (i m : Int) (hi : zok i) (hm : zok m) : zCi mX7_tell (fun u => [zr u 0, zi i, zi m]) σ (fun r σ' => r = (nTell S i m).2 ∧ zok r ∧ cInv σ' (nTell S i m).1 ∧ zfr 0 56 σ σ') := by
  refine zCi_mk (own := RX7) rfl (by decide +kernel) (fun w => [some (zr w 0), some (zi i), some (zi m)]) (fun _ => rfl) (fun _ => Nat.le_of_ble_eq_true rfl) ?_
  intro Γ h hr
  have hI0 := hI
  obtain ⟨la, mu, ⟨hla, hmu, hne⟩, ⟨e7, e8⟩, h3, hP, h5, h6, h7, h8, h9, h10, h11⟩ := hI
  have np10 := hP.2.2.2.2.2.1
  have hpi : 39 ≤ la := by unfold zPl at hla; omega
  have hap : la + 8 < mu ∨ mu + 8 < la := by unfold zPl at hla hmu; omega
  have hmi : 39 ≤ mu := by unfold zPl at hmu; omega
  unfold zok at hi hm
  have q1 := hP.2.2.2.1.1
  have q2 := hP.2.2.2.1.2.1
  have bad : ¬ (pK S.2.1 i = 1 ∧ 0 ≤ m ∧ m ≤ 99) → nTell S i m = (S, -1) := fun z => if_neg z
  by_cases hk : pK S.2.1 i = 1
  · refine z_raload_n h dX7_tell_0 rfl ?_
    refine y_getd 7 h dX7_tell_1 fX7_56 L0 rfl rfl e7 ?_
    refine z_iload_n h dX7_tell_4 rfl ?_
    refine z_cVi1 h dX7_tell_5 lX7_162 vX4_hasChild rfl (zPl_o hla) (c_X4_hasChild σ la hla S.2.1 hP i hi) rfl (Nat.le_of_ble_eq_true rfl) (by decide) (fun v σ1 g1 => ?_)
    obtain ⟨rfl, rfl⟩ := g1
    rw [if_pos hk]
    refine z_if_eq h dX7_tell_8 (by omega) (fun b8 => by exfalso; omega) (fun b8 => ?_)
    refine z_iload_n h dX7_tell_11 rfl ?_
    refine z_if_lt h dX7_tell_12 (by omega) (fun b12 => ?_) (fun b12 => ?_)
    · refine z_iconst h dX7_tell_21 ?_
      refine z_irI h hr dX7_tell_22 ?_
      rw [bad (by omega)]
      exact ⟨rfl, by unfold zok; omega, hI0, zfr_rf⟩
    · refine z_iload_n h dX7_tell_15 rfl ?_
      refine z_bipush h dX7_tell_16 (by decide) ?_
      refine z_icmp_lt h dX7_tell_18 (by omega) (by omega) (fun b18 => ?_) (fun b18 => ?_)
      · refine z_raload_n h dX7_tell_23 rfl ?_
        refine y_getd 7 h dX7_tell_24 fX7_56 L0 rfl rfl e7 ?_
        refine z_iload_n h dX7_tell_27 rfl ?_
        refine z_iload_n h dX7_tell_28 rfl ?_
        refine z_cVi2 h dX7_tell_29 lX7_67 vX4_addCry rfl (zPl_o hla) (c_X4_addCry σ1 la hla S.2.1 hP i m hm (pK_in hk)) rfl (Nat.le_of_ble_eq_true rfl) (by decide) (fun v2 σ2 g2 => ?_)
        have hv : v2 = 0 ∨ v2 = 1 := by rcases g2 with g2 | g2 <;> simp [g2]
        refine z_if_ne h dX7_tell_32 (by omega) (fun b32 => ?_) (fun b32 => ?_)
        · rcases g2 with ⟨a1, a2, a3, a4, a5, a6⟩ | ⟨a1, a2, a3⟩
          rotate_left
          · exfalso; omega
          have g4 : ∀ c, c < la → ∀ q, σ2 c q = σ1 c q := fun c hc q => a6 c (by omega) q
          have g5 : nTell S i m = ((S.1, (S.2.1.1, S.2.1.2.1 ++ [(i, m)], S.2.1.2.2), S.2.2), (S.2.1.2.1.length : Int) + 1) := by (unfold nTell; rw [if_pos ⟨hk, by omega, by omega⟩, if_pos a1])
          have g6 := a5.2.2.2.1.1
          refine z_raload_n h dX7_tell_38 rfl ?_
          refine y_getd 7 h dX7_tell_39 fX7_56 L0 rfl rfl (by rw [g4 0 (by omega) 7]; exact e7) ?_
          refine z_getr h dX7_tell_42 fX7_71 (zPl_o hla) rfl ?_
          refine y_get 3 h dX7_tell_45 fX7_75 (zCy_o (zPl_c hla)) rfl rfl ?_
          refine z_irI h hr dX7_tell_48 ?_
          rw [g5]
          simp at g6
          refine ⟨g6, by unfold zok; omega, cInv_laid (S := S) ⟨hla, hmu, hne⟩ ⟨by rw [g4 0 (by omega)]; exact e7, by rw [g4 0 (by omega)]; exact e8⟩ (fun c c1 c2 q => a6 c (by omega) q) h3 h5 h9 h10 _ a5 S.2.2.1 ⟨by rw [g4 0 (by omega)]; exact h6.1, by simp; omega⟩ S.2.2.2.1 ⟨by rw [g4 0 (by omega)]; exact h7.1, h7.2⟩ h8 h11, zfr_mono a6 (by omega) (by unfold zPl at hla; omega)⟩
        · refine z_bipush h dX7_tell_35 (by decide) ?_
          refine z_irI h hr dX7_tell_37 ?_
          rcases g2 with ⟨a1, a2, a3, a4, a5, a6⟩ | ⟨a1, a2, rfl⟩
          · exfalso; omega
          · have g5 : nTell S i m = (S, -3) := by (unfold nTell; rw [if_pos ⟨hk, by omega, by omega⟩, if_neg (by omega)])
            rw [g5]
            exact ⟨rfl, by unfold zok; omega, hI0, zfr_rf⟩
      · refine z_iconst h dX7_tell_21 ?_
        refine z_irI h hr dX7_tell_22 ?_
        rw [bad (by omega)]
        exact ⟨rfl, by unfold zok; omega, hI0, zfr_rf⟩
  · refine z_raload_n h dX7_tell_0 rfl ?_
    refine y_getd 7 h dX7_tell_1 fX7_56 L0 rfl rfl e7 ?_
    refine z_iload_n h dX7_tell_4 rfl ?_
    refine z_cVi1 h dX7_tell_5 lX7_162 vX4_hasChild rfl (zPl_o hla) (c_X4_hasChild σ la hla S.2.1 hP i hi) rfl (Nat.le_of_ble_eq_true rfl) (by decide) (fun v σ1 g1 => ?_)
    obtain ⟨rfl, rfl⟩ := g1
    rw [if_neg hk]
    refine z_if_eq h dX7_tell_8 (by omega) (fun b8 => ?_) (fun b8 => by exfalso; omega)
    refine z_iconst h dX7_tell_21 ?_
    refine z_irI h hr dX7_tell_22 ?_
    rw [bad (fun z => hk z.1)]
    exact ⟨rfl, by unfold zok; omega, hI0, zfr_rf⟩
def nTb (S : zSt) : zSt × Int := if S.2.2.1 < S.2.1.2.1.length then ((S.1, (S.2.1.1, S.2.1.2.1.dropLast, S.2.1.2.2), S.2.2), (S.2.1.2.1.length : Int) - 1 - S.2.2.1) else (S, -2)
theorem c_X7_takeBack (σ : zM) (S : zSt) (hI : cInv σ S) : zCi mX7_takeBack (fun u => [zr u 0]) σ (fun r σ' => r = (nTb S).2 ∧ zok r ∧ cInv σ' (nTb S).1 ∧ zfr 0 56 σ σ') := by
  refine zCi_mk (own := RX7) rfl (by decide +kernel) (fun w => [some (zr w 0)]) (fun _ => rfl) (fun _ => Nat.le_of_ble_eq_true rfl) ?_
  intro Γ h hr
  have hI0 := hI
  obtain ⟨la, mu, ⟨hla, hmu, hne⟩, ⟨e7, e8⟩, h3, hP, h5, h6, h7, h8, h9, h10, h11⟩ := hI
  have np10 := hP.2.2.2.2.2.1
  have hpi : 39 ≤ la := by unfold zPl at hla; omega
  have hap : la + 8 < mu ∨ mu + 8 < la := by unfold zPl at hla hmu; omega
  have hmi : 39 ≤ mu := by unfold zPl at hmu; omega
  have q1 := hP.2.2.2.1.1
  have q2 := hP.2.2.2.1.2.1
  by_cases hlt : S.2.2.1 < S.2.1.2.1.length
  · have g5 : nTb S = ((S.1, (S.2.1.1, S.2.1.2.1.dropLast, S.2.1.2.2), S.2.2), (S.2.1.2.1.length : Int) - 1 - S.2.2.1) := if_pos hlt
    refine z_raload_n h dX7_takeBack_0 rfl ?_
    refine y_getd 7 h dX7_takeBack_1 fX7_56 L0 rfl rfl e7 ?_
    refine z_getr h dX7_takeBack_4 fX7_71 (zPl_o hla) rfl ?_
    refine y_get 3 h dX7_takeBack_7 fX7_75 (zCy_o (zPl_c hla)) rfl rfl ?_
    refine z_raload_n h dX7_takeBack_10 rfl ?_
    refine y_get 9 h dX7_takeBack_11 fX7_78 L0 rfl rfl ?_
    refine z_icmp_gt h dX7_takeBack_14 (by omega) (by omega) (fun b14 => ?_) (fun b14 => by exfalso; omega)
    refine z_raload_n h dX7_takeBack_20 rfl ?_
    refine y_getd 7 h dX7_takeBack_21 fX7_56 L0 rfl rfl e7 ?_
    refine z_getr h dX7_takeBack_24 fX7_71 (zPl_o hla) rfl ?_
    refine z_cVv0 h dX7_takeBack_27 lX7_165 vX0_dropLast rfl (zCy_o (zPl_c hla)) (c_X0_dropLast σ (la + 5) (zPl_c hla) S.2.1.2.1 hP.2.2.2.1) rfl (Nat.le_of_ble_eq_true rfl) (by decide) (fun σ1 g1 => ?_)
    have g4 : ∀ c, c < la + 5 → ∀ q, σ1 c q = σ c q := fun c hc q => g1.2 c (by omega) q
    have g6 := g1.1.1
    refine z_raload_n h dX7_takeBack_30 rfl ?_
    refine y_getd 7 h dX7_takeBack_31 fX7_56 L0 rfl rfl (by rw [g4 0 (by omega) 7]; exact e7) ?_
    refine z_getr h dX7_takeBack_34 fX7_71 (zPl_o hla) rfl ?_
    refine y_get 3 h dX7_takeBack_37 fX7_75 (zCy_o (zPl_c hla)) rfl rfl ?_
    refine z_raload_n h dX7_takeBack_40 rfl ?_
    refine y_get 9 h dX7_takeBack_41 fX7_78 L0 rfl rfl ?_
    refine z_isub h dX7_takeBack_44 ?_
    refine z_irI h hr dX7_takeBack_45 ?_
    rw [g5]
    rw [List.length_dropLast] at g6
    have g7 := g4 0 (by omega) 9
    refine ⟨?_, ?_, cInv_laid (S := S) ⟨hla, hmu, hne⟩ ⟨by rw [g4 0 (by omega)]; exact e7, by rw [g4 0 (by omega)]; exact e8⟩ (fun c c1 c2 q => g1.2 c (by omega) q) h3 h5 h9 h10 _ (cPlan_cries hP (fun c a b q => g4 c (by omega) q) _ g1.1 (fun c hc => hP.2.2.2.2.2.2.2.1 c ((List.dropLast_sublist _).subset hc))) S.2.2.1 ⟨by rw [g7]; exact h6.1, by rw [List.length_dropLast]; omega⟩ S.2.2.2.1 ⟨by rw [g4 0 (by omega)]; exact h7.1, h7.2⟩ h8 h11, zfr_mono g1.2 (by omega) (by unfold zPl at hla; omega)⟩
    · show σ1 (la + 5) 3 - σ1 0 9 = (S.2.1.2.1.length : Int) - 1 - S.2.2.1
      omega
    · unfold zok
      omega
  · have g5 : nTb S = (S, -2) := if_neg hlt
    refine z_raload_n h dX7_takeBack_0 rfl ?_
    refine y_getd 7 h dX7_takeBack_1 fX7_56 L0 rfl rfl e7 ?_
    refine z_getr h dX7_takeBack_4 fX7_71 (zPl_o hla) rfl ?_
    refine y_get 3 h dX7_takeBack_7 fX7_75 (zCy_o (zPl_c hla)) rfl rfl ?_
    refine z_raload_n h dX7_takeBack_10 rfl ?_
    refine y_get 9 h dX7_takeBack_11 fX7_78 L0 rfl rfl ?_
    refine z_icmp_gt h dX7_takeBack_14 (by omega) (by omega) (fun b14 => by exfalso; omega) (fun b14 => ?_)
    refine z_bipush h dX7_takeBack_17 (by decide) ?_
    refine z_irI h hr dX7_takeBack_19 ?_
    rw [g5]
    exact ⟨rfl, by unfold zok; omega, hI0, zfr_rf⟩
def aCount (S : zSt) (w : Int) : Int := if w = 0 then S.2.1.1.length else if w = 1 then S.2.1.2.1.length else if w = 2 then (S.2.1.2.1.length : Int) - S.2.2.1 else if w = 3 then S.2.2.2.1.length else if w = 4 then S.2.2.2.2.1.length else if w = 5 then S.2.2.2.2.2.length else if w = 6 then S.1.length else if w = 7 then pL S.2.1 else -1
theorem c_X7_count (σ : zM) (S : zSt) (hI : cInv σ S) (w : Int) (hw : zok w) : zCi mX7_count (fun u => [zr u 0, zi w]) σ (fun r σ' => r = aCount S w ∧ zok r ∧ cInv σ' S ∧ zfr 0 56 σ σ') := by
  refine zCi_mk (own := RX7) rfl (by decide +kernel) (fun w0 => [some (zr w0 0), some (zi w)]) (fun _ => rfl) (fun _ => Nat.le_of_ble_eq_true rfl) ?_
  intro Γ h hr
  have hI0 := hI
  obtain ⟨la, mu, ⟨hla, hmu, hne⟩, ⟨e7, e8⟩, h3, hP, h5, h6, h7, h8, h9, h10, h11⟩ := hI
  have np10 := hP.2.2.2.2.2.1
  have hpi : 39 ≤ la := by unfold zPl at hla; omega
  have hap : la + 8 < mu ∨ mu + 8 < la := by unfold zPl at hla hmu; omega
  have hmi : 39 ≤ mu := by unfold zPl at hmu; omega
  unfold zok at hw
  have q0 := hP.1
  have q1 := hP.2.2.2.1.1
  have q2 := hP.2.2.2.1.2.1
  have q3 := hP.2.2.2.2.1.2.2.2.2
  have q4 := hP.2.2.2.2.2.2.2.2.2.2.2.2
  have a1 := h10.1
  have a2 := h10.2.1
  have a3 := h10.2.2.1
  have a4 := h10.2.2.2.1
  have a5 := h3.1
  have a6 := h3.2.1
  unfold aCount pL at hr

  by_cases c0 : w = 0
  · refine z_iload_n h dX7_count_0 rfl ?_
    refine z_tabIn (t := 48) h (0) dX7_count_1 (c0) (by decide) (by rfl) (by decide) ?_
    refine z_raload_n h dX7_count_48 rfl ?_
    refine y_getd 7 h dX7_count_49 fX7_56 L0 rfl rfl e7 ?_
    refine y_get 5 h dX7_count_52 fX7_92 (zPl_o hla) rfl rfl ?_
    refine z_irI h hr dX7_count_55 ?_
    refine ⟨?_, by unfold zok; omega, hI0, zfr_rf⟩
    rw [if_pos (by omega)]
    exact q0
  by_cases c1 : w = 1
  · refine z_iload_n h dX7_count_0 rfl ?_
    refine z_tabIn (t := 56) h (1) dX7_count_1 (c1) (by decide) (by rfl) (by decide) ?_
    refine z_raload_n h dX7_count_56 rfl ?_
    refine y_getd 7 h dX7_count_57 fX7_56 L0 rfl rfl e7 ?_
    refine z_getr h dX7_count_60 fX7_71 (zPl_o hla) rfl ?_
    refine y_get 3 h dX7_count_63 fX7_75 (zCy_o (zPl_c hla)) rfl rfl ?_
    refine z_irI h hr dX7_count_66 ?_
    refine ⟨?_, by unfold zok; omega, hI0, zfr_rf⟩
    rw [if_neg (by omega), if_pos (by omega)]
    exact q1
  by_cases c2 : w = 2
  · refine z_iload_n h dX7_count_0 rfl ?_
    refine z_tabIn (t := 67) h (2) dX7_count_1 (c2) (by decide) (by rfl) (by decide) ?_
    refine z_raload_n h dX7_count_67 rfl ?_
    refine y_getd 7 h dX7_count_68 fX7_56 L0 rfl rfl e7 ?_
    refine z_getr h dX7_count_71 fX7_71 (zPl_o hla) rfl ?_
    refine y_get 3 h dX7_count_74 fX7_75 (zCy_o (zPl_c hla)) rfl rfl ?_
    refine z_raload_n h dX7_count_77 rfl ?_
    refine y_get 9 h dX7_count_78 fX7_78 L0 rfl rfl ?_
    refine z_isub h dX7_count_81 ?_
    refine z_irI h hr dX7_count_82 ?_
    refine ⟨?_, by unfold zok; omega, hI0, zfr_rf⟩
    rw [if_neg (by omega), if_neg (by omega), if_pos (by omega)]
    rw [q1, h6.1]
  by_cases c3 : w = 3
  · refine z_iload_n h dX7_count_0 rfl ?_
    refine z_tabIn (t := 83) h (3) dX7_count_1 (c3) (by decide) (by rfl) (by decide) ?_
    refine z_raload_n h dX7_count_83 rfl ?_
    refine y_get 6 h dX7_count_84 fX7_49 L0 rfl rfl ?_
    refine z_irI h hr dX7_count_87 ?_
    refine ⟨?_, by unfold zok; omega, hI0, zfr_rf⟩
    rw [if_neg (by omega), if_neg (by omega), if_neg (by omega), if_pos (by omega)]
    exact h7.1
  by_cases c4 : w = 4
  · refine z_iload_n h dX7_count_0 rfl ?_
    refine z_tabIn (t := 88) h (4) dX7_count_1 (c4) (by decide) (by rfl) (by decide) ?_
    refine z_raload_n h dX7_count_88 rfl ?_
    refine z_getr h dX7_count_89 fX7_38 L0 rfl ?_
    refine y_get 2 h dX7_count_92 fX7_235 L27 rfl rfl ?_
    refine z_irI h hr dX7_count_95 ?_
    refine ⟨?_, by unfold zok; omega, hI0, zfr_rf⟩
    rw [if_neg (by omega), if_neg (by omega), if_neg (by omega), if_neg (by omega), if_pos (by omega)]
    exact a1
  by_cases c5 : w = 5
  · refine z_iload_n h dX7_count_0 rfl ?_
    refine z_tabIn (t := 96) h (5) dX7_count_1 (c5) (by decide) (by rfl) (by decide) ?_
    refine z_raload_n h dX7_count_96 rfl ?_
    refine z_getr h dX7_count_97 fX7_38 L0 rfl ?_
    refine y_get 3 h dX7_count_100 fX7_238 L27 rfl rfl ?_
    refine z_irI h hr dX7_count_103 ?_
    refine ⟨?_, by unfold zok; omega, hI0, zfr_rf⟩
    rw [if_neg (by omega), if_neg (by omega), if_neg (by omega), if_neg (by omega), if_neg (by omega), if_pos (by omega)]
    exact a3
  by_cases c6 : w = 6
  · refine z_iload_n h dX7_count_0 rfl ?_
    refine z_tabIn (t := 104) h (6) dX7_count_1 (c6) (by decide) (by rfl) (by decide) ?_
    refine z_raload_n h dX7_count_104 rfl ?_
    refine z_getr h dX7_count_105 fX7_10 L0 rfl ?_
    refine y_get 2 h dX7_count_108 fX7_81 L1 rfl rfl ?_
    refine z_irI h hr dX7_count_111 ?_
    refine ⟨?_, by unfold zok; omega, hI0, zfr_rf⟩
    rw [if_neg (by omega), if_neg (by omega), if_neg (by omega), if_neg (by omega), if_neg (by omega), if_neg (by omega), if_pos (by omega)]
    exact a5
  by_cases c7 : w = 7
  · refine z_iload_n h dX7_count_0 rfl ?_
    refine z_tabIn (t := 112) h (7) dX7_count_1 (c7) (by decide) (by rfl) (by decide) ?_
    refine z_raload_n h dX7_count_112 rfl ?_
    refine y_getd 7 h dX7_count_113 fX7_56 L0 rfl rfl e7 ?_
    refine y_get 10 h dX7_count_116 fX7_257 (zPl_o hla) rfl rfl ?_
    refine z_irI h hr dX7_count_119 ?_
    refine ⟨?_, by unfold zok; omega, hI0, zfr_rf⟩
    rw [if_neg (by omega), if_neg (by omega), if_neg (by omega), if_neg (by omega), if_neg (by omega), if_neg (by omega), if_neg (by omega), if_pos (by omega)]
    exact q3
  refine z_iload_n h dX7_count_0 rfl ?_
  refine z_tabOut (t := 120) h dX7_count_1 (by omega) (by omega) (by decide) ?_
  refine z_iconst h dX7_count_120 ?_
  refine z_irI h hr dX7_count_121 ?_
  refine ⟨?_, by unfold zok; omega, hI0, zfr_rf⟩
  rw [if_neg (by omega), if_neg (by omega), if_neg (by omega), if_neg (by omega), if_neg (by omega), if_neg (by omega), if_neg (by omega), if_neg (by omega)]
theorem c_X7_wipe (σ : zM) (S : zSt) (hI : cInv σ S) : zCi mX7_wipe (fun u => [zr u 0]) σ (fun r σ' => r = (S.1.length : Int) ∧ zok r ∧ cInv σ' ([], S.2) ∧ zfr 0 56 σ σ') := by
  refine zCi_mk (own := RX7) rfl (by decide +kernel) (fun w => [some (zr w 0), none]) (fun _ => rfl) (fun _ => Nat.le_of_ble_eq_true rfl) ?_
  intro Γ h hr
  have hI0 := hI
  obtain ⟨la, mu, ⟨hla, hmu, hne⟩, ⟨e7, e8⟩, h3, hP, h5, h6, h7, h8, h9, h10, h11⟩ := hI
  have np10 := hP.2.2.2.2.2.1
  have hpi : 39 ≤ la := by unfold zPl at hla; omega
  have hap : la + 8 < mu ∨ mu + 8 < la := by unfold zPl at hla hmu; omega
  have hmi : 39 ≤ mu := by unfold zPl at hmu; omega
  have a5 := h3.1
  have a6 := h3.2.1
  refine z_raload_n h dX7_wipe_0 rfl ?_
  refine z_getr h dX7_wipe_1 fX7_10 L0 rfl ?_
  refine y_get 2 h dX7_wipe_4 fX7_81 L1 rfl rfl ?_
  refine z_ist1_n h dX7_wipe_7 (by decide) (zst1_1 rfl) ?_
  refine z_raload_n h dX7_wipe_8 rfl ?_
  refine z_getr h dX7_wipe_9 fX7_10 L0 rfl ?_
  refine z_iconst h dX7_wipe_12 ?_
  refine y_put 2 h dX7_wipe_13 fX7_81 pX6_2 L1 rfl rfl ?_
  refine z_iload_n h dX7_wipe_16 rfl ?_
  refine z_irI h hr dX7_wipe_17 ?_
  refine ⟨a5, by unfold zok; omega, ?_, zfr_up zfr_rf (by omega) (by omega)⟩
  obtain ⟨l, h5⟩ := h5
  obtain ⟨⟨l1, h9⟩, l2, h9'⟩ := h9
  exact ⟨la, mu, ⟨hla, hmu, hne⟩, ⟨by rw [zup_ne (by omega)]; exact e7, by rw [zup_ne (by omega)]; exact e8⟩, ⟨by rw [zup_eq]; rfl, by simp, by simp, fun k a b => by rw [zup_ne (by omega)]; exact h3.2.2.2 k a b⟩, cPlan_fr hP (fun c a b i => zup_ne (by omega)), ⟨l, cCry_fr h5 (fun c a b i => zup_ne (by omega))⟩, by rw [zup_ne (by omega)]; exact h6, by rw [zup_ne (by omega)]; exact h7, fun k l hk => ⟨cCry_fr (h8 k l hk).1 (fun c a b i => zup_ne (by omega)), (h8 k l hk).2⟩, ⟨⟨l1, cCry_fr h9 (fun c a b i => zup_ne (by omega))⟩, l2, cCry_fr h9' (fun c a b i => zup_ne (by omega))⟩, cNames_fr h10 (zup_ne (by omega)) (zup_ne (by omega)) (fun i => zup_ne (by omega)) (fun i => zup_ne (by omega)), h11⟩
theorem pAll_rg (tx : List Int) : ∀ (f k : Nat) (P : zP), -4 ≤ (pAll tx f k P).1 ∧ (pAll tx f k P).1 ≤ tx.length
  | 0, k, P => by simp [pAll]
  | f + 1, k, P => by
    unfold pAll
    split
    · split
      · simp only; omega
      · exact pAll_rg tx f _ _
    · simp only; omega
theorem c_X7_fault (σ : zM) (S : zSt) (hI : cInv σ S) : zCi mX7_fault (fun u => [zr u 0]) σ (fun r σ' => r = (pAll S.1 300 0 zP0).1 ∧ zok r ∧ cInv σ' S ∧ zfr 0 56 σ σ') := by
  refine zCi_mk (own := RX7) rfl (by decide +kernel) (fun w => [some (zr w 0)]) (fun _ => rfl) (fun _ => Nat.le_of_ble_eq_true rfl) ?_
  intro Γ h hr
  have hI0 := hI
  obtain ⟨la, mu, ⟨hla, hmu, hne⟩, ⟨e7, e8⟩, h3, hP, h5, h6, h7, h8, h9, h10, h11⟩ := hI
  have np10 := hP.2.2.2.2.2.1
  have hpi : 39 ≤ la := by unfold zPl at hla; omega
  have hap : la + 8 < mu ∨ mu + 8 < la := by unfold zPl at hla hmu; omega
  have hmi : 39 ≤ mu := by unfold zPl at hmu; omega
  obtain ⟨l0, hl0⟩ := h5
  refine z_raload_n h dX7_fault_0 rfl ?_
  refine z_getr h dX7_fault_1 fX7_10 L0 rfl ?_
  refine z_raload_n h dX7_fault_4 rfl ?_
  refine y_getd 8 h dX7_fault_5 fX7_60 L0 rfl rfl e8 ?_
  refine z_cVi1 h dX7_fault_8 lX7_88 vX6_readInto rfl L1 (c_X6_readInto σ S.1 mu hmu l0 hl0 h3) rfl (Nat.le_of_ble_eq_true rfl) (by decide) (fun v σ1 g1 => ?_)
  refine z_irI h hr dX7_fault_11 ?_
  obtain ⟨g1, g2, g3, g4, g5⟩ := g1
  have r := pAll_rg S.1 300 0 zP0
  have a6 := h3.2.1
  obtain ⟨⟨l1, h9⟩, l2, h9'⟩ := h9
  have f : ∀ c, (c < 1 ∨ 3 < c) → c < 39 → ∀ i, σ1 c i = σ c i := fun c a b i => g2 c a (by omega) i
  refine ⟨g3, by unfold zok; omega, ⟨la, mu, ⟨hla, hmu, hne⟩, ⟨by rw [f 0 (by omega) (by omega)]; exact e7, by rw [f 0 (by omega) (by omega)]; exact e8⟩, g1, cPlan_fr hP (fun c a b i => g2 c (by omega) (by omega) i), g5, by rw [f 0 (by omega) (by omega)]; exact h6, by rw [f 0 (by omega) (by omega)]; exact h7, fun k l hk => ⟨cCry_fr (h8 k l hk).1 (fun c a b i => f c (by omega) (by have := (List.getElem?_eq_some_iff.mp hk).1; omega) i), (h8 k l hk).2⟩, ⟨⟨l1, cCry_fr h9 (fun c a b i => f c (by omega) (by omega) i)⟩, l2, cCry_fr h9' (fun c a b i => f c (by omega) (by omega) i)⟩, cNames_fr h10 (f 27 (by omega) (by omega) 2) (f 27 (by omega) (by omega) 3) (fun i => f 28 (by omega) (by omega) i) (fun i => f 29 (by omega) (by omega) i), h11⟩, fun c hc i => g2 c (by omega) (by unfold zPl at hmu; omega) i⟩
def nLay (S : zSt) : zSt × Int := if (pAll S.1 300 0 zP0).1 = -4 ∧ (pAll S.1 300 0 zP0).2.1.length ≠ 0 then ((S.1, (pAll S.1 300 0 zP0).2, (pAll S.1 300 0 zP0).2.2.1.length, [], [], []), ((pAll S.1 300 0 zP0).2.1.length : Int)) else (S, -2)
theorem c_X7_lay (σ : zM) (S : zSt) (hI : cInv σ S) : zCi mX7_lay (fun u => [zr u 0]) σ (fun r σ' => r = (nLay S).2 ∧ zok r ∧ cInv σ' (nLay S).1 ∧ zfr 0 56 σ σ') := by
  refine zCi_mk (own := RX7) rfl (by decide +kernel) (fun w => [some (zr w 0), none]) (fun _ => rfl) (fun _ => Nat.le_of_ble_eq_true rfl) ?_
  intro Γ h hr
  have hI0 := hI
  obtain ⟨la, mu, ⟨hla, hmu, hne⟩, ⟨e7, e8⟩, h3, hP, h5, h6, h7, h8, h9, h10, h11⟩ := hI
  have np10 := hP.2.2.2.2.2.1
  have hpi : 39 ≤ la := by unfold zPl at hla; omega
  have hap : la + 8 < mu ∨ mu + 8 < la := by unfold zPl at hla hmu; omega
  have hmi : 39 ≤ mu := by unfold zPl at hmu; omega
  obtain ⟨l0, hl0⟩ := h5
  refine z_raload_n h dX7_lay_0 rfl ?_
  refine z_getr h dX7_lay_1 fX7_10 L0 rfl ?_
  refine z_raload_n h dX7_lay_4 rfl ?_
  refine y_getd 8 h dX7_lay_5 fX7_60 L0 rfl rfl e8 ?_
  refine z_cVi1 h dX7_lay_8 lX7_88 vX6_readInto rfl L1 (c_X6_readInto σ S.1 mu hmu l0 hl0 h3) rfl (Nat.le_of_ble_eq_true rfl) (by decide) (fun v σ1 g1 => ?_)
  obtain ⟨g1, g2, g3, g4, g5⟩ := g1
  have r := pAll_rg S.1 300 0 zP0
  have a6 := h3.2.1
  obtain ⟨⟨l1, h9⟩, l2, h9'⟩ := h9
  have f : ∀ c, (c < 1 ∨ 3 < c) → c < 39 → ∀ i, σ1 c i = σ c i := fun c a b i => g2 c a (by omega) i
  have old : cInv σ1 S := ⟨la, mu, ⟨hla, hmu, hne⟩, ⟨by rw [f 0 (by omega) (by omega)]; exact e7, by rw [f 0 (by omega) (by omega)]; exact e8⟩, g1, cPlan_fr hP (fun c a b i => g2 c (by omega) (by omega) i), g5, by rw [f 0 (by omega) (by omega)]; exact h6, by rw [f 0 (by omega) (by omega)]; exact h7, fun k l hk => ⟨cCry_fr (h8 k l hk).1 (fun c a b i => f c (by omega) (by have := (List.getElem?_eq_some_iff.mp hk).1; omega) i), (h8 k l hk).2⟩, ⟨⟨l1, cCry_fr h9 (fun c a b i => f c (by omega) (by omega) i)⟩, l2, cCry_fr h9' (fun c a b i => f c (by omega) (by omega) i)⟩, cNames_fr h10 (f 27 (by omega) (by omega) 2) (f 27 (by omega) (by omega) 3) (fun i => f 28 (by omega) (by omega) i) (fun i => f 29 (by omega) (by omega) i), h11⟩
  have fr : zfr 0 56 σ σ1 := fun c hc i => g2 c (by omega) (by unfold zPl at hmu; omega) i
  refine z_bipush h dX7_lay_11 (by decide) ?_
  refine z_icmp_ne h dX7_lay_13 (by omega) (by omega) (fun b13 => ?_) (fun b13 => ?_)
  · refine z_bipush h dX7_lay_26 (by decide) ?_
    refine z_irI h hr dX7_lay_28 ?_
    have hb : nLay S = (S, -2) := if_neg (by first | (intro z; omega))
    rw [hb]
    exact ⟨rfl, by unfold zok; omega, old, fr⟩
  · have hPn := g4 (by omega)
    have n1 := hPn.1
    have n10 := hPn.2.2.2.2.2.1
    have n3 := hPn.2.2.2.1.1
    have n8 := hPn.2.2.2.1.2.1
    refine z_raload_n h dX7_lay_16 rfl ?_
    refine y_getd 8 h dX7_lay_17 fX7_60 L0 rfl rfl (by rw [f 0 (by omega) (by omega)]; exact e8) ?_
    refine y_get 5 h dX7_lay_20 fX7_92 (zPl_o hmu) rfl rfl ?_
    refine z_if_ne h dX7_lay_23 (by omega) (fun b23 => ?_) (fun b23 => ?_)
    · refine z_raload_n h dX7_lay_29 rfl ?_
      refine y_getd 7 h dX7_lay_30 fX7_56 L0 rfl rfl (by rw [f 0 (by omega) (by omega)]; exact e7) ?_
      refine z_rst1_n h dX7_lay_33 (by decide) (zst1_1 rfl) ?_
      refine z_raload_n h dX7_lay_34 rfl ?_
      refine z_raload_n h dX7_lay_35 rfl ?_
      refine y_getd 8 h dX7_lay_36 fX7_60 L0 rfl rfl (by rw [f 0 (by omega) (by omega)]; exact e8) ?_
      refine y_putd 7 h dX7_lay_39 fX7_56 pX7_7 L0 rfl rfl (fun _ => rfl) (fun _ => rfl) ?_
      refine z_raload_n h dX7_lay_42 rfl ?_
      refine z_raload_n h dX7_lay_43 rfl ?_
      refine y_putd 8 h dX7_lay_44 fX7_60 pX7_8 L0 rfl rfl (fun _ => rfl) (fun _ => rfl) ?_
      refine z_raload_n h dX7_lay_47 rfl ?_
      refine z_raload_n h dX7_lay_48 rfl ?_
      refine y_getd 7 h dX7_lay_49 fX7_56 L0 rfl rfl (show _ = ((mu : Nat) : Int) by simp (disch := omega) only [zup_nei, zup_eq]) ?_
      refine z_getr h dX7_lay_52 fX7_71 (zPl_o hmu) rfl ?_
      refine y_get 3 h dX7_lay_55 fX7_75 (zCy_o (zPl_c hmu)) rfl rfl ?_
      try simp (disch := omega) only [zup_eq, zup_ne, zup_nei]
      rw [n3]
      refine y_put 9 h dX7_lay_58 fX7_78 pX7_9 L0 rfl rfl ?_
      refine z_raload_n h dX7_lay_61 rfl ?_
      refine z_iconst h dX7_lay_62 ?_
      refine y_put 6 h dX7_lay_63 fX7_49 pX7_6 L0 rfl rfl ?_
      refine z_raload_n h dX7_lay_66 rfl ?_
      refine z_getr h dX7_lay_67 fX7_38 L0 rfl ?_
      refine z_cVv0 h dX7_lay_70 lX7_95 vX2_forget rfl L27 (c_X2_forget _) rfl (Nat.le_of_ble_eq_true rfl) (by decide) (fun σ2 k1 => ?_)
      obtain ⟨k1, k2'⟩ := k1
      have k2 : ∀ c, c < 27 ∨ 29 < c → ∀ i, σ2 c i = _ := fun c hc i => k2' c hc i
      refine z_raload_n h dX7_lay_73 rfl ?_
      refine y_getd 7 h dX7_lay_74 fX7_56 L0 rfl rfl (show _ = ((mu : Nat) : Int) by rw [k2 0 (by omega)]; simp (disch := omega) only [zup_nei, zup_eq]) ?_
      refine y_get 5 h dX7_lay_77 fX7_92 (zPl_o hmu) rfl rfl ?_
      refine z_irI h hr dX7_lay_80 ?_
      have hb : nLay S = ((S.1, (pAll S.1 300 0 zP0).2, (pAll S.1 300 0 zP0).2.2.1.length, [], [], []), ((pAll S.1 300 0 zP0).2.1.length : Int)) := if_pos ⟨by omega, by omega⟩
      rw [hb]
      have kk : ∀ c, c ≠ 0 → c < 27 ∨ 29 < c → ∀ i, σ2 c i = σ1 c i := fun c c0 hc i => by (rw [k2 c hc]; simp (disch := omega) only [zup_ne])
      have kp : σ2 mu 5 = (pAll S.1 300 0 zP0).2.1.length := by (rw [kk mu (by omega) (by omega)]; exact n1)
      refine ⟨kp, by unfold zok; omega, ⟨mu, la, ⟨hmu, hla, fun z => hne z.symm⟩, ⟨?_, ?_⟩, ?_, ?_, ?_, ⟨?_, Nat.le_refl _⟩, ⟨?_, by simp⟩, by simp, ⟨?_, ?_⟩, k1, ?_⟩, ?_⟩
      · rw [k2 0 (by omega)]; simp (disch := omega) only [zup_nei, zup_eq]
      · rw [k2 0 (by omega)]; simp (disch := omega) only [zup_nei, zup_eq]
      · exact cText_fr g1 (kk 1 (by omega) (by omega) 2) (fun i => kk 2 (by omega) (by omega) i) (fun i a b => by rw [kk 3 (by omega) (by omega)]; exact g1.2.2.2 i a b)
      · exact cPlan_fr hPn (fun c a b i => kk c (by omega) (by omega) i)
      · exact ⟨_, cCry_fr hP.2.2.2.1 (fun c a b i => by rw [kk c (by omega) (by omega)]; exact g2 c (by omega) (by omega) i)⟩
      · rw [k2 0 (by omega)]; simp (disch := omega) only [zup_nei, zup_eq]
      · rw [k2 0 (by omega)]; simp (disch := omega) only [zup_nei, zup_eq]; rfl
      · exact ⟨l1, cCry_fr h9 (fun c a b i => by rw [kk c (by omega) (by omega)]; exact f c (by omega) (by omega) i)⟩
      · exact ⟨l2, cCry_fr h9' (fun c a b i => by rw [kk c (by omega) (by omega)]; exact f c (by omega) (by omega) i)⟩
      · show 1 ≤ (pAll S.1 300 0 zP0).2.1.length
        have : σ1 mu 5 ≠ 0 := b23
        omega
      · exact fun c hc i => by (rw [kk c (by omega) (by omega)]; exact fr c hc i)
    · refine z_bipush h dX7_lay_26 (by decide) ?_
      refine z_irI h hr dX7_lay_28 ?_
      have hb : nLay S = (S, -2) := if_neg (by first | (intro z; omega))
      rw [hb]
      exact ⟨rfl, by unfold zok; omega, old, fr⟩
