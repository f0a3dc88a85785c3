def mGo (σ σ' : zM) : Prop := (∀ c, c ≠ 57 → (c < 74 ∨ 79 < c) → ∀ i, σ' c i = σ c i) ∧ ∀ i : Int, i < 20 ∨ 31 < i → σ' 57 i = σ 57 i
theorem mGo_rf {σ : zM} : mGo σ σ := ⟨fun _ _ _ _ => rfl, fun _ _ => rfl⟩
theorem mGo_tr {σ σ1 σ2 : zM} (h1 : mGo σ σ1) (h2 : mGo σ1 σ2) : mGo σ σ2 := ⟨fun c a b i => (h2.1 c a b i).trans (h1.1 c a b i), fun i a => (h2.2 i a).trans (h1.2 i a)⟩
theorem mGo_kp {σ σ' : zM} (h : mKp σ σ') : mGo σ σ' := ⟨fun c a b i => h.1 c a (by omega) (by omega) (by omega) i, fun i a => h.2 i (by omega) (by omega)⟩
theorem mGo_up {σ σ' : zM} {i v : Int} (h : mGo σ σ') (hi : 20 ≤ i ∧ i ≤ 31) : mGo σ (zup σ' 57 i v) := ⟨fun c a b j => by rw [zup_ne a]; exact h.1 c a b j, fun j a => by rw [zup_nei (by omega)]; exact h.2 j a⟩
theorem mGo_ua {σ σ' : zM} {c : Nat} {i v : Int} (h : mGo σ σ') (hc : 74 ≤ c ∧ c ≤ 79) : mGo σ (zup σ' c i v) := ⟨fun c' a b j => by rw [zup_ne (by omega)]; exact h.1 c' a b j, fun j a => by rw [zup_ne (by omega)]; exact h.2 j a⟩
theorem mInv_go {σ σ' : zM} {S : zSt} (h : mInv σ S) (hg : mGo σ σ') : mInv σ' S := mInv_of h (fun c i hu => by
  unfold mUse at hu
  by_cases e : c = 57
  · subst e; exact hg.2 i (by omega)
  · exact hg.1 c e (by omega) i)
theorem mGo_fr {σ σ' : zM} (h : mGo σ σ') : zfr 57 79 σ σ' := fun c hc i => h.1 c (by omega) (by omega) i
theorem mPlan_go {σ σ' : zM} {P : zP} (h : mPlan σ 0 P) (hg : mGo σ σ') : mPlan σ' 0 P := mPlan_fr h (fun c hc => hg.1 c (by omega) (by omega) _) (fun c k _ _ _ => hg.1 c (by omega) (by omega) _) (mCr_fr h.2.2.1 (hg.1 68 (by omega) (by omega) _) (fun k _ _ => ⟨hg.1 69 (by omega) (by omega) _, hg.1 70 (by omega) (by omega) _⟩))
def mM0 (σ : zM) (P : zP) : Prop := σ 57 20 = 255 ∧ σ 57 21 = -4 ∧ σ 57 23 = -4 ∧ σ 57 25 = pL P ∧ σ 57 26 = -4
theorem mM0_kp {σ σ' : zM} {P : zP} (h : mM0 σ P) (hk : mKp σ σ') : mM0 σ' P := by
  unfold mM0
  rw [hk.2 20 (by omega) (by omega), hk.2 21 (by omega) (by omega), hk.2 23 (by omega) (by omega), hk.2 25 (by omega) (by omega), hk.2 26 (by omega) (by omega)]
  exact h
theorem yEx_0 (t : Int) (line : List Int) : yEx t line [] = false := rfl
theorem mMd_0 {σ : zM} {np : Nat} {l : Int} {hu hd : Nat} {z : Int} (h25 : σ 57 25 = l ∧ 0 ≤ l ∧ l ≤ 3) (h20 : σ 57 20 = hd ∧ hd < 256) (hb : ∀ c, c < 8 → hd.testBit c = !hu.testBit c) (h26 : (z = -1 ∧ σ 57 26 = -4) ∨ (0 ≤ z ∧ z ≤ 9999 ∧ σ 57 26 = z)) (h21 : σ 57 21 = -4) (h23 : σ 57 23 = -4) : mMd σ np (l, hu, [], z) :=
  ⟨h25, ⟨hd, h20.1, h20.2, hb⟩, h26, by omega, by omega, by omega, by omega, fun t line => by rw [yEx_0]; constructor; (intro z; cases z); (intro z; omega)⟩
theorem mMd_1 {σ : zM} {np : Nat} {l : Int} {hu hd : Nat} {z i m : Int} (h25 : σ 57 25 = l ∧ 0 ≤ l ∧ l ≤ 3) (h20 : σ 57 20 = hd ∧ hd < 256) (hb : ∀ c, c < 8 → hd.testBit c = !hu.testBit c) (h26 : (z = -1 ∧ σ 57 26 = -4) ∨ (0 ≤ z ∧ z ≤ 9999 ∧ σ 57 26 = z)) (h21 : σ 57 21 = i ∧ 0 ≤ i ∧ i < np) (h22 : σ 57 22 = m ∧ 0 ≤ m ∧ m < 200) (h23 : σ 57 23 = -4) : mMd σ np (l, hu, [(i, m)], z) :=
  ⟨h25, ⟨hd, h20.1, h20.2, hb⟩, h26, by omega, by omega, by omega, by omega, fun t line => by
    rw [h21.1, h22.1, h23]
    simp [yEx]
    exact fun _ _ => h21.2.1⟩
theorem mMd_2 {σ : zM} {np : Nat} {l : Int} {hu hd : Nat} {z i m j m' : Int} (h25 : σ 57 25 = l ∧ 0 ≤ l ∧ l ≤ 3) (h20 : σ 57 20 = hd ∧ hd < 256) (hb : ∀ c, c < 8 → hd.testBit c = !hu.testBit c) (h26 : (z = -1 ∧ σ 57 26 = -4) ∨ (0 ≤ z ∧ z ≤ 9999 ∧ σ 57 26 = z)) (h21 : σ 57 21 = i ∧ 0 ≤ i ∧ i < np) (h22 : σ 57 22 = m ∧ 0 ≤ m ∧ m < 200) (h23 : σ 57 23 = j ∧ 0 ≤ j ∧ j < np) (h24 : σ 57 24 = m' ∧ 0 ≤ m' ∧ m' < 200) : mMd σ np (l, hu, [(i, m), (j, m')], z) :=
  ⟨h25, ⟨hd, h20.1, h20.2, hb⟩, h26, by omega, by omega, by omega, by omega, fun t line => by
    rw [h21.1, h22.1, h23.1, h24.1]
    simp [yEx, h21.2.1, h23.2.1]⟩
theorem bits_0 : ∀ c, c < 8 → (255 : Nat).testBit c = !(0 : Nat).testBit c := by decide
theorem pL_ok {P : zP} (h : zPok P) : 0 ≤ pL P ∧ pL P ≤ 3 := h.2.2.2.2.2.2.2
theorem mMd_as {σ : zM} {P : zP} (h : mM0 σ P) (hp : zPok P) : mMd σ P.1.length (md0 P) := mMd_0 (hd := 255) ⟨h.2.2.2.1, pL_ok hp⟩ ⟨h.1, by decide⟩ bits_0 (Or.inl ⟨rfl, h.2.2.2.2⟩) h.2.1 h.2.2.1
theorem c_X8_asItIs (σ : zM) (P : zP) (hP : mPlan σ 0 P) : zCv mX8_asItIs (fun u => [zr u 57]) σ (fun σ' => mGo σ σ' ∧ mM0 σ' P) := by
  refine zCv_mk (own := RX8) rfl (by decide +kernel) (fun w => [some (zr w 57)]) (fun _ => rfl) (fun _ => Nat.le_of_ble_eq_true rfl) ?_
  intro Γ h hr
  have q := hP.2.2.2.1.2.2.2.2
  refine z_raload_n h dX8_asItIs_0 rfl ?_
  refine z_sipush h dX8_asItIs_1 (by decide) ?_
  refine y_put 20 h dX8_asItIs_4 fX8_130 pX8_20 L57 rfl rfl ?_
  refine z_raload_n h dX8_asItIs_7 rfl ?_
  refine z_bipush h dX8_asItIs_8 (by decide) ?_
  refine y_put 21 h dX8_asItIs_10 fX8_133 pX8_21 L57 rfl rfl ?_
  refine z_raload_n h dX8_asItIs_13 rfl ?_
  refine z_bipush h dX8_asItIs_14 (by decide) ?_
  refine y_put 23 h dX8_asItIs_16 fX8_136 pX8_23 L57 rfl rfl ?_
  refine z_raload_n h dX8_asItIs_19 rfl ?_
  refine z_raload_n h dX8_asItIs_20 rfl ?_
  refine z_getr h dX8_asItIs_21 fX8_37 L57 rfl ?_
  refine z_iconst h dX8_asItIs_24 ?_
  refine z_iald h dX8_asItIs_25 L67 (by decide) (by omega) ?_
  try simp (disch := omega) only [zup_eq, zup_ne, zup_nei]
  rw [q]
  refine y_put 25 h dX8_asItIs_26 fX8_139 pX8_25 L57 rfl rfl ?_
  refine z_raload_n h dX8_asItIs_29 rfl ?_
  refine z_bipush h dX8_asItIs_30 (by decide) ?_
  refine y_put 26 h dX8_asItIs_32 fX8_142 pX8_26 L57 rfl rfl ?_
  refine z_irV h hr dX8_asItIs_35 ?_
  refine ⟨mGo_up (mGo_up (mGo_up (mGo_up (mGo_up mGo_rf ?_) ?_) ?_) ?_) ?_, ?_, ?_, ?_, ?_, ?_⟩
  · omega
  · omega
  · omega
  · omega
  · omega
  all_goals (simp (disch := omega) only [zup_eq, zup_nei]; try rfl)
/-- a morning gone through -/
def mRs (σ : zM) (P : zP) (s : zS) : Prop := mRow σ s.1 P.1.length ∧ mEnd σ s.2.1 s.2.2.1 P.1.length ∧ σ 57 31 = s.2.2.2.1
theorem c_X8_goAsItIs (σ : zM) (P : zP) (hP : mPlan σ 0 P) : zCv mX8_goAsItIs (fun u => [zr u 57]) σ (fun σ' => mGo σ σ' ∧ mM0 σ' P ∧ mRs σ' P (zFn P (pL P) 0 [])) := by
  refine zCv_mk (own := RX8) rfl (by decide +kernel) (fun w => [some (zr w 57)]) (fun _ => rfl) (fun _ => Nat.le_of_ble_eq_true rfl) ?_
  intro Γ h hr
  refine z_raload_n h dX8_goAsItIs_0 rfl ?_
  refine z_cVv0 h dX8_goAsItIs_1 lX8_190 vX8_asItIs rfl L57 (c_X8_asItIs σ P hP) rfl (Nat.le_of_ble_eq_true rfl) (by decide) (fun σ1 g1 => ?_)
  refine z_raload_n h dX8_goAsItIs_4 rfl ?_
  refine z_sipush h dX8_goAsItIs_5 (by decide) ?_
  refine z_cVv1 h dX8_goAsItIs_8 lX8_193 vX8_go rfl L57 (c_X8_go σ1 P (mPlan_go hP g1.1) (md0 P) (mMd_as g1.2 hP.2.2.2.2) 199 (by omega)) rfl (Nat.le_of_ble_eq_true rfl) (by decide) (fun σ2 g2 => ?_)
  refine z_irV h hr dX8_goAsItIs_11 ?_
  exact ⟨mGo_tr g1.1 (mGo_kp g2.1), mM0_kp g1.2 g2.1, g2.2⟩
theorem c_X8_person (σ : zM) (S : zSt) (hI : mInv σ S) (i w : Int) (hi : zok i) (hw : zok w) : zCi mX8_person (fun u => [zr u 57, zi i, zi w]) σ (fun r σ' => r = aPerson S i w ∧ mInv σ' S ∧ zfr 57 79 σ σ') := by
  refine zCi_mk (own := RX8) rfl (by decide +kernel) (fun w0 => [some (zr w0 57), some (zi i), some (zi w)]) (fun _ => rfl) (fun _ => Nat.le_of_ble_eq_true rfl) ?_
  intro Γ h hr
  have hI0 := hI
  obtain ⟨hT, hP, h3, h4, h5, h6, h7⟩ := hI
  have np10 := hP.2.2.2.2.1
  have q3 := hP.2.2.1
  have c1 := q3.1
  have c2 := q3.2.1
  have hw' := hw
  unfold zok at hw
  have bad : ¬ ((0 ≤ i ∧ i < S.2.1.1.length) ∧ 0 ≤ w ∧ w ≤ 4) → aPerson S i w = -1 := fun z => by
    unfold aPerson
    split
    · rw [if_neg (by omega), if_neg (by omega), if_neg (by omega), if_neg (by omega), if_neg (by omega)]
    · rfl
  refine z_raload_n h dX8_person_0 rfl ?_
  refine z_iload_n h dX8_person_1 rfl ?_
  refine z_cVi1 h dX8_person_2 lX8_196 vX8_isPerson rfl L57 (c_X8_isPerson σ S.2.1 hP i hi) rfl (Nat.le_of_ble_eq_true rfl) (by decide) (fun v σ1 g1 => ?_)
  obtain ⟨g1, e1⟩ := g1
  rw [e1]
  refine z_if_eq h dX8_person_5 (by omega) (fun b5 => ?_) (fun b5 => ?_)
  · refine z_iconst h dX8_person_20 ?_
    refine z_irI h hr dX8_person_21 ?_
    rw [bad (by omega)]
    exact ⟨rfl, hI0, zfr_rf⟩
  · refine z_iload_n h dX8_person_8 rfl ?_
    refine z_i2l h dX8_person_9 (by omega) ?_
    refine z_lconst (x := 0) h dX8_person_10 (by decide) ?_
    refine z_ldc2 (x := 4) h dX8_person_11 kX8_199 (by decide) ?_
    refine z_cSi3 h dX8_person_14 lX8_83 vX8_in (c_X8_in _ w (0) (4) (by unfold zlo; omega) (by unfold zlo; omega) (by unfold zlo; omega)) rfl (Nat.le_of_ble_eq_true rfl) (by decide) (fun v2 σ2 g2 => ?_)
    obtain ⟨g2, e2⟩ := g2
    rw [e2]
    refine z_if_ne h dX8_person_17 (by omega) (fun b17 => ?_) (fun b17 => ?_)
    · refine z_iload_n h dX8_person_22 rfl ?_
      refine z_iconst h dX8_person_23 ?_
      refine z_icmp_ge h dX8_person_24 (by omega) (by omega) (fun b24 => ?_) (fun b24 => ?_)
      · refine z_raload_n h dX8_person_61 rfl ?_
        refine z_cVv0 h dX8_person_62 lX8_201 vX8_goAsItIs rfl L57 (c_X8_goAsItIs σ S.2.1 hP) rfl (Nat.le_of_ble_eq_true rfl) (by decide) (fun σ3 g3 => ?_)
        have g4 := g3.2.2.2.1 i (by omega) (by omega)
        refine z_iload_n h dX8_person_65 rfl ?_
        refine z_iconst h dX8_person_66 ?_
        refine z_icmp_ne h dX8_person_67 (by omega) (by omega) (fun b67 => ?_) (fun b67 => ?_)
        · refine z_raload_n h dX8_person_79 rfl ?_
          refine z_getr h dX8_person_80 fX8_64 L57 rfl ?_
          refine z_iload_n h dX8_person_83 rfl ?_
          refine z_iald h dX8_person_84 L76 (by decide) (by omega) ?_
          refine z_irI h hr dX8_person_85 ?_
          refine ⟨?_, mInv_go hI0 g3.1, mGo_fr g3.1⟩
          unfold aPerson
          rw [if_pos (by omega), if_neg (by omega), if_neg (by omega), if_neg (by omega)]
          first
            | (rw [if_pos (by omega)]; exact g4.1.1)
            | (rw [if_neg (by omega), if_pos (by omega)]; exact g4.1.2)
        · refine z_raload_n h dX8_person_70 rfl ?_
          refine z_getr h dX8_person_71 fX8_61 L57 rfl ?_
          refine z_iload_n h dX8_person_74 rfl ?_
          refine z_iald h dX8_person_75 L75 (by decide) (by omega) ?_
          refine z_goto h dX8_person_76 ?_
          refine z_irI h hr dX8_person_85 ?_
          refine ⟨?_, mInv_go hI0 g3.1, mGo_fr g3.1⟩
          unfold aPerson
          rw [if_pos (by omega), if_neg (by omega), if_neg (by omega), if_neg (by omega)]
          first
            | (rw [if_pos (by omega)]; exact g4.1.1)
            | (rw [if_neg (by omega), if_pos (by omega)]; exact g4.1.2)
      · have a1 := mPlan_at hP (i := i) (by omega)
        refine z_iload_n h dX8_person_27 rfl ?_
        refine z_if_ne h dX8_person_28 (by omega) (fun b28 => ?_) (fun b28 => ?_)
        · refine z_iload_n h dX8_person_40 rfl ?_
          refine z_iconst h dX8_person_41 ?_
          refine z_icmp_ne h dX8_person_42 (by omega) (by omega) (fun b42 => ?_) (fun b42 => ?_)
          · refine z_raload_n h dX8_person_54 rfl ?_
            refine z_getr h dX8_person_55 fX8_22 L57 rfl ?_
            refine z_iload_n h dX8_person_58 rfl ?_
            refine z_iald h dX8_person_59 L62 (by decide) (by omega) ?_
            refine z_irI h hr dX8_person_60 ?_
            refine ⟨?_, hI0, zfr_rf⟩
            unfold aPerson
            rw [if_pos (by omega)]
            first
              | (rw [if_pos (by omega)]; exact a1.1.1)
              | (rw [if_neg (by omega), if_pos (by omega)]; exact a1.1.2.1)
              | (rw [if_neg (by omega), if_neg (by omega), if_pos (by omega)]; exact a1.1.2.2)
          · refine z_raload_n h dX8_person_45 rfl ?_
            refine z_getr h dX8_person_46 fX8_19 L57 rfl ?_
            refine z_iload_n h dX8_person_49 rfl ?_
            refine z_iald h dX8_person_50 L61 (by decide) (by omega) ?_
            refine z_goto h dX8_person_51 ?_
            refine z_irI h hr dX8_person_60 ?_
            refine ⟨?_, hI0, zfr_rf⟩
            unfold aPerson
            rw [if_pos (by omega)]
            first
              | (rw [if_pos (by omega)]; exact a1.1.1)
              | (rw [if_neg (by omega), if_pos (by omega)]; exact a1.1.2.1)
              | (rw [if_neg (by omega), if_neg (by omega), if_pos (by omega)]; exact a1.1.2.2)
        · refine z_raload_n h dX8_person_31 rfl ?_
          refine z_getr h dX8_person_32 fX8_16 L57 rfl ?_
          refine z_iload_n h dX8_person_35 rfl ?_
          refine z_iald h dX8_person_36 L60 (by decide) (by omega) ?_
          refine z_goto h dX8_person_37 ?_
          refine z_irI h hr dX8_person_60 ?_
          refine ⟨?_, hI0, zfr_rf⟩
          unfold aPerson
          rw [if_pos (by omega)]
          first
            | (rw [if_pos (by omega)]; exact a1.1.1)
            | (rw [if_neg (by omega), if_pos (by omega)]; exact a1.1.2.1)
            | (rw [if_neg (by omega), if_neg (by omega), if_pos (by omega)]; exact a1.1.2.2)
    · refine z_iconst h dX8_person_20 ?_
      refine z_irI h hr dX8_person_21 ?_
      rw [bad (by omega)]
      exact ⟨rfl, hI0, zfr_rf⟩
theorem c_X8_place (σ : zM) (S : zSt) (hI : mInv σ S) (i t : Int) (hi : zok i) (ht : zok t) : zCi mX8_place (fun u => [zr u 57, zi i, zi t]) σ (fun r σ' => r = aPlace S i t ∧ mInv σ' S ∧ zfr 57 79 σ σ') := by
  refine zCi_mk (own := RX8) rfl (by decide +kernel) (fun w => [some (zr w 57), some (zi i), some (zi t), none]) (fun _ => rfl) (fun _ => Nat.le_of_ble_eq_true rfl) ?_
  intro Γ h hr
  have hI0 := hI
  obtain ⟨hT, hP, h3, h4, h5, h6, h7⟩ := hI
  have np10 := hP.2.2.2.2.1
  have q3 := hP.2.2.1
  have c1 := q3.1
  have c2 := q3.2.1
  unfold zok at ht
  have bad : ¬ ((0 ≤ i ∧ i < S.2.1.1.length) ∧ 0 ≤ t ∧ t < 200) → aPlace S i t = -1 := fun z => if_neg z
  have L : ∀ (σ1 : zM) (line : List Int), (0 ≤ i ∧ i < S.2.1.1.length) → mRow σ1 line S.2.1.1.length → mInv σ1 S → zfr 57 79 σ σ1 → zPlace i 0 line = aPlace S i t → ∀ (n k : Nat), k + n = line.length → zPlace i k (line.drop k) = zPlace i 0 line → zV Γ σ1 33 [some (zr (zw Γ) 57), some (zi i), some (zi t), some (zi k)] [] := by
    intro σ1 line hii g1 g2 g3 g4 n
    obtain ⟨r1, r2, r3, r4, r5⟩ := g1
    induction n with
    | zero =>
      intro k j1 j2
      rw [List.drop_eq_nil_of_le (by omega)] at j2
      refine z_iload_n h dX8_place_33 rfl ?_
      refine z_raload_n h dX8_place_34 rfl ?_
      refine y_get 28 h dX8_place_35 fX8_145 L57 rfl rfl ?_
      refine z_icmp_ge h dX8_place_38 (by omega) (by omega) (fun b38 => ?_) (fun b38 => by exfalso; omega)
      refine z_bipush h dX8_place_59 (by decide) ?_
      refine z_irI h hr dX8_place_61 ?_
      rw [← g4, ← j2]
      exact ⟨rfl, g2, g3⟩
    | succ n ih =>
      intro k j1 j2
      have hlt : k < line.length := by omega
      have hx := List.getElem?_eq_getElem hlt
      obtain ⟨x, hxe⟩ : ∃ x, x = line[k] := ⟨_, rfl⟩
      rw [← hxe] at hx
      rw [List.drop_eq_getElem_cons hlt, ← hxe, zPlace] at j2
      have a1 := r3 k x hx
      have a2 := r4 x (List.mem_of_getElem? hx)
      refine z_iload_n h dX8_place_33 rfl ?_
      refine z_raload_n h dX8_place_34 rfl ?_
      refine y_get 28 h dX8_place_35 fX8_145 L57 rfl rfl ?_
      refine z_icmp_ge h dX8_place_38 (by omega) (by omega) (fun b38 => by exfalso; omega) (fun b38 => ?_)
      refine z_raload_n h dX8_place_41 rfl ?_
      refine z_getr h dX8_place_42 fX8_58 L57 rfl ?_
      refine z_iload_n h dX8_place_45 rfl ?_
      refine z_iald h dX8_place_46 L74 (by decide) (by omega) ?_
      refine z_iload_n h dX8_place_47 rfl ?_
      refine z_icmp_ne h dX8_place_48 (by omega) (by omega) (fun b48 => ?_) (fun b48 => ?_)
      · refine z_iinc h dX8_place_53 (by decide) rfl (zst1_3 rfl) ?_
        refine z_goto h dX8_place_56 ?_
        rw [if_neg (by omega)] at j2
        rw [show (k : Int) + 1 = ((k + 1 : Nat) : Int) by omega]
        exact ih (k + 1) (by omega) j2
      · refine z_iload_n h dX8_place_51 rfl ?_
        refine z_irI h hr dX8_place_52 ?_
        rw [if_pos (by omega)] at j2
        rw [← g4, ← j2]
        exact ⟨rfl, g2, g3⟩
  refine z_raload_n h dX8_place_0 rfl ?_
  refine z_iload_n h dX8_place_1 rfl ?_
  refine z_cVi1 h dX8_place_2 lX8_196 vX8_isPerson rfl L57 (c_X8_isPerson σ S.2.1 hP i hi) rfl (Nat.le_of_ble_eq_true rfl) (by decide) (fun v σ1 g1 => ?_)
  obtain ⟨g1, e1⟩ := g1
  rw [e1]
  refine z_if_eq h dX8_place_5 (by omega) (fun b5 => ?_) (fun b5 => ?_)
  · refine z_iconst h dX8_place_20 ?_
    refine z_irI h hr dX8_place_21 ?_
    rw [bad (by omega)]
    exact ⟨rfl, hI0, zfr_rf⟩
  · refine z_iload_n h dX8_place_8 rfl ?_
    refine z_i2l h dX8_place_9 (by omega) ?_
    refine z_lconst (x := 0) h dX8_place_10 (by decide) ?_
    refine z_ldc2 (x := 199) h dX8_place_11 kX8_204 (by decide) ?_
    refine z_cSi3 h dX8_place_14 lX8_83 vX8_in (c_X8_in _ t (0) (199) (by unfold zlo; omega) (by unfold zlo; omega) (by unfold zlo; omega)) rfl (Nat.le_of_ble_eq_true rfl) (by decide) (fun v2 σ2 g2 => ?_)
    obtain ⟨g2, e2⟩ := g2
    rw [e2]
    refine z_if_ne h dX8_place_17 (by omega) (fun b17 => ?_) (fun b17 => ?_)
    · refine z_raload_n h dX8_place_22 rfl ?_
      refine z_cVv0 h dX8_place_23 lX8_190 vX8_asItIs rfl L57 (c_X8_asItIs σ S.2.1 hP) rfl (Nat.le_of_ble_eq_true rfl) (by decide) (fun σ3 g3 => ?_)
      have et : t = ((t.toNat : Nat) : Int) := by omega
      refine z_raload_n h dX8_place_26 rfl ?_
      refine z_iload_n h dX8_place_27 rfl ?_
      rw [et]
      refine z_cVv1 h dX8_place_28 lX8_193 vX8_go rfl L57 (c_X8_go σ3 S.2.1 (mPlan_go hP g3.1) (md0 S.2.1) (mMd_as g3.2 hP.2.2.2.2) t.toNat (by omega)) rfl (Nat.le_of_ble_eq_true rfl) (by decide) (fun σ4 g4 => ?_)
      refine z_iconst h dX8_place_31 ?_
      refine z_ist1_n h dX8_place_32 (by decide) (zst1_3 rfl) ?_
      have g5 := mGo_tr g3.1 (mGo_kp g4.1)
      rw [← et]
      exact L σ4 _ (by omega) g4.2.1 (mInv_go hI0 g5) (mGo_fr g5) (by unfold aPlace; rw [if_pos (by omega)]) (sRun S.2.1 (md0 S.2.1) (t.toNat + 1)).1.length 0 (by omega) rfl
    · refine z_iconst h dX8_place_20 ?_
      refine z_irI h hr dX8_place_21 ?_
      rw [bad (by omega)]
      exact ⟨rfl, hI0, zfr_rf⟩
theorem c_X8_row (σ : zM) (S : zSt) (hI : mInv σ S) (t : Int) (ht : zok t) : zCi mX8_row (fun u => [zr u 57, zi t]) σ (fun r σ' => r = aRow S t ∧ mInv σ' S ∧ zfr 57 79 σ σ') := by
  refine zCi_mk (own := RX8) rfl (by decide +kernel) (fun w => [some (zr w 57), some (zi t)]) (fun _ => rfl) (fun _ => Nat.le_of_ble_eq_true rfl) ?_
  intro Γ h hr
  have hI0 := hI
  obtain ⟨hT, hP, h3, h4, h5, h6, h7⟩ := hI
  have np10 := hP.2.2.2.2.1
  have q3 := hP.2.2.1
  have c1 := q3.1
  have c2 := q3.2.1
  unfold zok at ht
  refine z_iload_n h dX8_row_0 rfl ?_
  refine z_i2l h dX8_row_1 (by omega) ?_
  refine z_lconst (x := 0) h dX8_row_2 (by decide) ?_
  refine z_ldc2 (x := 199) h dX8_row_3 kX8_204 (by decide) ?_
  refine z_cSi3 h dX8_row_6 lX8_83 vX8_in (c_X8_in _ t (0) (199) (by unfold zlo; omega) (by unfold zlo; omega) (by unfold zlo; omega)) rfl (Nat.le_of_ble_eq_true rfl) (by decide) (fun v2 σ2 g2 => ?_)
  obtain ⟨g2, e2⟩ := g2
  rw [e2]
  refine z_if_ne h dX8_row_9 (by omega) (fun b9 => ?_) (fun b9 => ?_)
  · refine z_raload_n h dX8_row_14 rfl ?_
    refine z_cVv0 h dX8_row_15 lX8_190 vX8_asItIs rfl L57 (c_X8_asItIs σ S.2.1 hP) rfl (Nat.le_of_ble_eq_true rfl) (by decide) (fun σ3 g3 => ?_)
    have et : t = ((t.toNat : Nat) : Int) := by omega
    refine z_raload_n h dX8_row_18 rfl ?_
    refine z_iload_n h dX8_row_19 rfl ?_
    rw [et]
    refine z_cVv1 h dX8_row_20 lX8_193 vX8_go rfl L57 (c_X8_go σ3 S.2.1 (mPlan_go hP g3.1) (md0 S.2.1) (mMd_as g3.2 hP.2.2.2.2) t.toNat (by omega)) rfl (Nat.le_of_ble_eq_true rfl) (by decide) (fun σ4 g4 => ?_)
    refine z_raload_n h dX8_row_23 rfl ?_
    refine y_get 28 h dX8_row_24 fX8_145 L57 rfl rfl ?_
    refine z_irI h hr dX8_row_27 ?_
    have g5 := mGo_tr g3.1 (mGo_kp g4.1)
    refine ⟨?_, mInv_go hI0 g5, mGo_fr g5⟩
    unfold aRow
    rw [if_pos (by omega)]
    exact g4.2.1.1
  · refine z_iconst h dX8_row_12 ?_
    refine z_irI h hr dX8_row_13 ?_
    refine ⟨?_, hI0, zfr_rf⟩
    unfold aRow
    rw [if_neg (by omega)]
theorem c_X8_all (σ : zM) (S : zSt) (hI : mInv σ S) (w : Int) (hw : zok w) : zCi mX8_all (fun u => [zr u 57, zi w]) σ (fun r σ' => r = aAll S w ∧ mInv σ' S ∧ zfr 57 79 σ σ') := by
  refine zCi_mk (own := RX8) rfl (by decide +kernel) (fun w0 => [some (zr w0 57), some (zi w)]) (fun _ => rfl) (fun _ => Nat.le_of_ble_eq_true rfl) ?_
  intro Γ h hr
  have hI0 := hI
  obtain ⟨hT, hP, h3, h4, h5, h6, h7⟩ := hI
  have np10 := hP.2.2.2.2.1
  have q3 := hP.2.2.1
  have c1 := q3.1
  have c2 := q3.2.1
  unfold zok at hw
  refine z_iload_n h dX8_all_0 rfl ?_
  refine z_i2l h dX8_all_1 (by omega) ?_
  refine z_lconst (x := 0) h dX8_all_2 (by decide) ?_
  refine z_ldc2 (x := 5) h dX8_all_3 kX8_206 (by decide) ?_
  refine z_cSi3 h dX8_all_6 lX8_83 vX8_in (c_X8_in _ w (0) (5) (by unfold zlo; omega) (by unfold zlo; omega) (by unfold zlo; omega)) rfl (Nat.le_of_ble_eq_true rfl) (by decide) (fun v2 σ2 g2 => ?_)
  obtain ⟨g2, e2⟩ := g2
  rw [e2]
  refine z_if_ne h dX8_all_9 (by omega) (fun b9 => ?_) (fun b9 => ?_)
  · refine z_raload_n h dX8_all_14 rfl ?_
    refine z_cVv0 h dX8_all_15 lX8_201 vX8_goAsItIs rfl L57 (c_X8_goAsItIs σ S.2.1 hP) rfl (Nat.le_of_ble_eq_true rfl) (by decide) (fun σ3 g3 => ?_)
    have hP3 := mPlan_go hP g3.1
    refine z_iload_n h dX8_all_18 rfl ?_
    refine z_iconst h dX8_all_19 ?_
    refine z_icmp_ge h dX8_all_20 (by omega) (by omega) (fun b20 => ?_) (fun b20 => ?_)
    · refine z_iload_n h dX8_all_31 rfl ?_
      refine z_iconst h dX8_all_32 ?_
      refine z_icmp_ne h dX8_all_33 (by omega) (by omega) (fun b33 => ?_) (fun b33 => ?_)
      · refine z_raload_n h dX8_all_43 rfl ?_
        refine z_cVi0 h dX8_all_44 lX8_211 vX8_unfair rfl L57 (c_X8_unfair σ3 S.2.1 hP3 _ _ g3.2.2.2.1) rfl (Nat.le_of_ble_eq_true rfl) (by decide) (fun x σ4 g4 => ?_)
        obtain ⟨g4, e4⟩ := g4
        rw [e4]
        refine z_irI h hr dX8_all_47 ?_
        refine ⟨?_, mInv_go hI0 g3.1, mGo_fr g3.1⟩
        unfold aAll
        first
          | (rw [if_pos (by omega)]; exact g4)
          | (rw [if_neg (by omega), if_pos (by omega)]; exact g3.2.2.2.2)
          | (rw [if_neg (by omega), if_neg (by omega), if_pos (by omega)]; exact g4)
      · refine z_raload_n h dX8_all_36 rfl ?_
        refine y_get 31 h dX8_all_37 fX8_171 L57 rfl rfl ?_
        refine z_goto h dX8_all_40 ?_
        refine z_irI h hr dX8_all_47 ?_
        refine ⟨?_, mInv_go hI0 g3.1, mGo_fr g3.1⟩
        unfold aAll
        first
          | (rw [if_pos (by omega)]; exact g4)
          | (rw [if_neg (by omega), if_pos (by omega)]; exact g3.2.2.2.2)
          | (rw [if_neg (by omega), if_neg (by omega), if_pos (by omega)]; exact g4)
    · refine z_raload_n h dX8_all_23 rfl ?_
      refine z_iload_n h dX8_all_24 rfl ?_
      refine z_cVi1 h dX8_all_25 lX8_208 vX8_howMany rfl L57 (c_X8_howMany σ3 S.2.1 hP3 _ _ g3.2.2.2.1 w (by omega)) rfl (Nat.le_of_ble_eq_true rfl) (by decide) (fun x σ4 g4 => ?_)
      obtain ⟨g4, e4⟩ := g4
      rw [e4]
      refine z_goto h dX8_all_28 ?_
      refine z_irI h hr dX8_all_47 ?_
      refine ⟨?_, mInv_go hI0 g3.1, mGo_fr g3.1⟩
      unfold aAll
      first
        | (rw [if_pos (by omega)]; exact g4)
        | (rw [if_neg (by omega), if_pos (by omega)]; exact g3.2.2.2.2)
        | (rw [if_neg (by omega), if_neg (by omega), if_pos (by omega)]; exact g4)
  · refine z_iconst h dX8_all_12 ?_
    refine z_irI h hr dX8_all_13 ?_
    refine ⟨?_, hI0, zfr_rf⟩
    unfold aAll
    rw [if_neg (by omega), if_neg (by omega), if_neg (by omega)]
theorem c_X8_unfairBy (σ : zM) (P : zP) (hP : mPlan σ 0 P) (l : Int) (hl : 0 ≤ l ∧ l ≤ 3) : zCi mX8_unfairBy (fun u => [zr u 57, zi l]) σ (fun r σ' => r = zU P l ∧ mGo σ σ') := by
  refine zCi_mk (own := RX8) rfl (by decide +kernel) (fun w => [some (zr w 57), some (zi l)]) (fun _ => rfl) (fun _ => Nat.le_of_ble_eq_true rfl) ?_
  intro Γ h hr
  refine z_raload_n h dX8_unfairBy_0 rfl ?_
  refine z_cVv0 h dX8_unfairBy_1 lX8_190 vX8_asItIs rfl L57 (c_X8_asItIs σ P hP) rfl (Nat.le_of_ble_eq_true rfl) (by decide) (fun σ1 g1 => ?_)
  refine z_raload_n h dX8_unfairBy_4 rfl ?_
  refine z_iload_n h dX8_unfairBy_5 rfl ?_
  refine y_put 25 h dX8_unfairBy_6 fX8_139 pX8_25 L57 rfl rfl ?_
  refine z_raload_n h dX8_unfairBy_9 rfl ?_
  refine z_sipush h dX8_unfairBy_10 (by decide) ?_
  refine z_cVv1 h dX8_unfairBy_13 lX8_193 vX8_go rfl L57 (c_X8_go (zup σ1 57 25 l) P (mPlan_go hP (mGo_up g1.1 (by omega))) (l, 0, [], -1) (mMd_0 ⟨zup_eq _ _ _ _, hl⟩ ⟨by rw [zup_nei (by omega)]; exact g1.2.1, by omega⟩ bits_0 (Or.inl ⟨rfl, by rw [zup_nei (by omega)]; exact g1.2.2.2.2.2⟩) (by rw [zup_nei (by omega)]; exact g1.2.2.1) (by rw [zup_nei (by omega)]; exact g1.2.2.2.1)) 199 (by omega)) rfl (Nat.le_of_ble_eq_true rfl) (by decide) (fun σ2 g2 => ?_)
  have g3 := mGo_tr (mGo_up (i := 25) (v := l) g1.1 (by omega)) (mGo_kp g2.1)
  refine z_raload_n h dX8_unfairBy_16 rfl ?_
  refine z_cVi0 h dX8_unfairBy_17 lX8_211 vX8_unfair rfl L57 (c_X8_unfair σ2 P (mPlan_go hP g3) _ _ g2.2.2.1) rfl (Nat.le_of_ble_eq_true rfl) (by decide) (fun x σ4 g4 => ?_)
  obtain ⟨g4, e4⟩ := g4
  rw [e4]
  refine z_irI h hr dX8_unfairBy_20 ?_
  exact ⟨g4, g3⟩
theorem zU_rg (P : zP) (l : Int) (h : P.1.length ≤ 10) : 0 ≤ zU P l ∧ zU P l ≤ 100 := by
  unfold zU uC
  have h1 : ∀ b : Nat, 0 ≤ zsum (fun a => uB (zFn P l 0 []).2.1 (zFn P l 0 []).2.2.1 (zo P b) (zo P a)) b ∧ zsum (fun a => uB (zFn P l 0 []).2.1 (zFn P l 0 []).2.2.1 (zo P b) (zo P a)) b ≤ b := fun b => by
    have := zsum_rg (f := fun a => uB (zFn P l 0 []).2.1 (zFn P l 0 []).2.2.1 (zo P b) (zo P a)) (m := 1) (by omega) (fun k => uB_rg _ _ _ _) b
    omega
  have h2 : ∀ n : Nat, n ≤ 10 → 0 ≤ zsum (fun b => zsum (fun a => uB (zFn P l 0 []).2.1 (zFn P l 0 []).2.2.1 (zo P b) (zo P a)) b) n ∧ zsum (fun b => zsum (fun a => uB (zFn P l 0 []).2.1 (zFn P l 0 []).2.2.1 (zo P b) (zo P a)) b) n ≤ n * 10 := by
    intro n
    induction n with
    | zero => intro _; simp [zsum]
    | succ n ih =>
      intro hn
      have h3 := ih (by omega)
      have h4 := h1 n
      unfold zsum
      omega
  have := h2 P.1.length h
  omega
theorem c_X8_laws (σ : zM) (S : zSt) (hI : mInv σ S) (l : Int) (hl : zok l) : zCi mX8_laws (fun u => [zr u 57, zi l]) σ (fun r σ' => r = aLaws S l ∧ mInv σ' S ∧ zfr 57 79 σ σ') := by
  refine zCi_mk (own := RX8) rfl (by decide +kernel) (fun w => [some (zr w 57), some (zi l), none, none, none, none]) (fun _ => rfl) (fun _ => Nat.le_of_ble_eq_true rfl) ?_
  intro Γ h hr
  have hI0 := hI
  obtain ⟨hT, hP, h3, h4, h5, h6, h7⟩ := hI
  have np10 := hP.2.2.2.2.1
  have q3 := hP.2.2.1
  have c1 := q3.1
  have c2 := q3.2.1
  unfold zok at hl
  have bl : ∀ n : Nat, (0 ≤ (zBl S.2.1 n).1 ∧ (zBl S.2.1 n).1 ≤ n) ∧ 0 ≤ (zBl S.2.1 n).2 ∧ (zBl S.2.1 n).2 ≤ 100 := by
    intro n
    induction n with
    | zero => exact ⟨by simp [zBl], zU_rg S.2.1 0 np10⟩
    | succ n ih =>
      have := zU_rg S.2.1 ((n + 1 : Nat) : Int) np10
      unfold zBl
      split
      · exact ⟨by constructor <;> simp <;> omega, this⟩
      · omega
  have L : ∀ (n k : Nat) (σ1 : zM) (l5 : Option Value), k + n = 3 → mGo σ σ1 → l = -1 → zV Γ σ1 37 [some (zr (zw Γ) 57), some (zi l), some (zi (zBl S.2.1 k).1), some (zi (zBl S.2.1 k).2), some (zi ((k : Int) + 1)), l5] [] := by
    intro n
    induction n with
    | zero =>
      intro k σ1 l5 j1 j2 j3
      have e : k = 3 := by omega
      subst e
      refine z_iload h dX8_laws_37 rfl ?_
      refine z_iconst h dX8_laws_39 ?_
      refine z_icmp_ge h dX8_laws_40 (by omega) (by omega) (fun b40 => ?_) (fun b40 => by exfalso; omega)
      refine z_iload_n h dX8_laws_83 rfl ?_
      refine z_irI h hr dX8_laws_84 ?_
      refine ⟨?_, mInv_go hI0 j2, mGo_fr j2⟩
      unfold aLaws
      rw [if_pos (by omega), if_pos (by omega)]
    | succ n ih =>
      intro k σ1 l5 j1 j2 j3
      have b1 := bl k
      have u1 := zU_rg S.2.1 ((k : Int) + 1) np10
      have hb : zBl S.2.1 (k + 1) = if zU S.2.1 ((k + 1 : Nat) : Int) < (zBl S.2.1 k).2 then (((k + 1 : Nat) : Int), zU S.2.1 ((k + 1 : Nat) : Int)) else zBl S.2.1 k := rfl
      rw [show ((k + 1 : Nat) : Int) = (k : Int) + 1 by omega] at hb
      refine z_iload h dX8_laws_37 rfl ?_
      refine z_iconst h dX8_laws_39 ?_
      refine z_icmp_ge h dX8_laws_40 (by omega) (by omega) (fun b40 => by exfalso; omega) (fun b40 => ?_)
      refine z_raload_n h dX8_laws_43 rfl ?_
      refine z_iload h dX8_laws_44 rfl ?_
      refine z_cVi1 h dX8_laws_46 lX8_229 vX8_unfairBy rfl L57 (c_X8_unfairBy σ1 S.2.1 (mPlan_go hP j2) ((k : Int) + 1) (by omega)) rfl (Nat.le_of_ble_eq_true rfl) (by decide) (fun v σ2 j4 => ?_)
      obtain ⟨rfl, j5⟩ := j4
      refine z_ist1 h dX8_laws_49 (by decide) (zst1_5 rfl) ?_
      refine z_iload h dX8_laws_51 rfl ?_
      refine z_iload_n h dX8_laws_53 rfl ?_
      refine z_icmp_ge h dX8_laws_54 (by omega) (by omega) (fun b54 => ?_) (fun b54 => ?_)
      · refine z_iload_n h dX8_laws_62 rfl ?_
        refine z_ist1_n h dX8_laws_63 (by decide) (zst1_2 rfl) ?_
        refine z_iload h dX8_laws_64 rfl ?_
        refine z_iload_n h dX8_laws_66 rfl ?_
        refine z_icmp_ge h dX8_laws_67 (by omega) (by omega) (fun b67 => ?_) (fun b67 => ?_)
        · refine z_iload_n h dX8_laws_75 rfl ?_
          refine z_ist1_n h dX8_laws_76 (by decide) (zst1_3 rfl) ?_
          refine z_iinc h dX8_laws_77 (by decide) rfl (zst1_4 rfl) ?_
          refine z_goto h dX8_laws_80 ?_
          have := ih (k + 1) σ2 (some (zi (zU S.2.1 ((k : Int) + 1)))) (by omega) (mGo_tr j2 j5) j3
          first
            | (rw [hb, if_pos (by omega)] at this; exact this)
            | (rw [hb, if_neg (by omega)] at this; exact this)
            | (exfalso; omega)
        · refine z_iload h dX8_laws_70 rfl ?_
          refine z_goto h dX8_laws_72 ?_
          refine z_ist1_n h dX8_laws_76 (by decide) (zst1_3 rfl) ?_
          refine z_iinc h dX8_laws_77 (by decide) rfl (zst1_4 rfl) ?_
          refine z_goto h dX8_laws_80 ?_
          have := ih (k + 1) σ2 (some (zi (zU S.2.1 ((k : Int) + 1)))) (by omega) (mGo_tr j2 j5) j3
          first
            | (rw [hb, if_pos (by omega)] at this; exact this)
            | (rw [hb, if_neg (by omega)] at this; exact this)
            | (exfalso; omega)
      · refine z_iload h dX8_laws_57 rfl ?_
        refine z_goto h dX8_laws_59 ?_
        refine z_ist1_n h dX8_laws_63 (by decide) (zst1_2 rfl) ?_
        refine z_iload h dX8_laws_64 rfl ?_
        refine z_iload_n h dX8_laws_66 rfl ?_
        refine z_icmp_ge h dX8_laws_67 (by omega) (by omega) (fun b67 => ?_) (fun b67 => ?_)
        · refine z_iload_n h dX8_laws_75 rfl ?_
          refine z_ist1_n h dX8_laws_76 (by decide) (zst1_3 rfl) ?_
          refine z_iinc h dX8_laws_77 (by decide) rfl (zst1_4 rfl) ?_
          refine z_goto h dX8_laws_80 ?_
          have := ih (k + 1) σ2 (some (zi (zU S.2.1 ((k : Int) + 1)))) (by omega) (mGo_tr j2 j5) j3
          first
            | (rw [hb, if_pos (by omega)] at this; exact this)
            | (rw [hb, if_neg (by omega)] at this; exact this)
            | (exfalso; omega)
        · refine z_iload h dX8_laws_70 rfl ?_
          refine z_goto h dX8_laws_72 ?_
          refine z_ist1_n h dX8_laws_76 (by decide) (zst1_3 rfl) ?_
          refine z_iinc h dX8_laws_77 (by decide) rfl (zst1_4 rfl) ?_
          refine z_goto h dX8_laws_80 ?_
          have := ih (k + 1) σ2 (some (zi (zU S.2.1 ((k : Int) + 1)))) (by omega) (mGo_tr j2 j5) j3
          first
            | (rw [hb, if_pos (by omega)] at this; exact this)
            | (rw [hb, if_neg (by omega)] at this; exact this)
            | (exfalso; omega)
  refine z_iload_n h dX8_laws_0 rfl ?_
  refine z_i2l h dX8_laws_1 (by omega) ?_
  refine z_ldc2 (x := -1) h dX8_laws_2 kX8_225 (by decide) ?_
  refine z_ldc2 (x := 3) h dX8_laws_5 kX8_227 (by decide) ?_
  refine z_cSi3 h dX8_laws_8 lX8_83 vX8_in (c_X8_in _ l (-1) (3) (by unfold zlo; omega) (by unfold zlo; omega) (by unfold zlo; omega)) rfl (Nat.le_of_ble_eq_true rfl) (by decide) (fun v2 σ2 g2 => ?_)
  obtain ⟨g2, e2⟩ := g2
  rw [e2]
  refine z_if_ne h dX8_laws_11 (by omega) (fun b11 => ?_) (fun b11 => ?_)
  · refine z_iload_n h dX8_laws_16 rfl ?_
    refine z_if_lt h dX8_laws_17 (by omega) (fun b17 => ?_) (fun b17 => ?_)
    · refine z_iconst h dX8_laws_26 ?_
      refine z_ist1_n h dX8_laws_27 (by decide) (zst1_2 rfl) ?_
      refine z_raload_n h dX8_laws_28 rfl ?_
      refine z_iconst h dX8_laws_29 ?_
      refine z_cVi1 h dX8_laws_30 lX8_229 vX8_unfairBy rfl L57 (c_X8_unfairBy σ S.2.1 hP _ (by omega)) rfl (Nat.le_of_ble_eq_true rfl) (by decide) (fun v σ3 j4 => ?_)
      obtain ⟨j4, j5⟩ := j4
      refine z_ist1_n h dX8_laws_33 (by decide) (zst1_3 rfl) ?_
      refine z_iconst h dX8_laws_34 ?_
      refine z_ist1 h dX8_laws_35 (by decide) (zst1_4 rfl) ?_
      rw [j4]
      exact L 3 0 σ3 none (by omega) j5 (by omega)
    · refine z_raload_n h dX8_laws_20 rfl ?_
      refine z_iload_n h dX8_laws_21 rfl ?_
      refine z_cVi1 h dX8_laws_22 lX8_229 vX8_unfairBy rfl L57 (c_X8_unfairBy σ S.2.1 hP _ (by omega)) rfl (Nat.le_of_ble_eq_true rfl) (by decide) (fun v σ3 j4 => ?_)
      obtain ⟨j4, j5⟩ := j4
      refine z_irI h hr dX8_laws_25 ?_
      refine ⟨?_, mInv_go hI0 j5, mGo_fr j5⟩
      unfold aLaws
      rw [if_pos (by omega), if_neg (by omega)]
      exact j4
  · refine z_iconst h dX8_laws_14 ?_
    refine z_irI h hr dX8_laws_15 ?_
    refine ⟨?_, hI0, zfr_rf⟩
    unfold aLaws
    rw [if_neg (by omega)]
