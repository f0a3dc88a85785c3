/-! ===== what would be, if a morning were otherwise ===== -/
def zTm (s : zS) (i : Int) : Int := if s.2.1 i = 0 then s.2.2.1 i else 200
/-- the morning to its end, by a law, without some cries, with more of them, by draws -/
def zFn (P : zP) (l : Int) (hu : Nat) (ex : List (Int × Int)) : zS := sRun P (l, hu, ex, -1) 200
def pL (P : zP) : Int := P.2.2.2.2.2.2
theorem zTm_rg {σ : zM} {s : zS} (h : cEnd σ s.2.1 s.2.2.1) {i : Int} (hi : 0 ≤ i ∧ i < 10) : 0 ≤ zTm s i ∧ zTm s i ≤ 200 ∧ (if σ 6 i = 0 then σ 7 i else 200) = zTm s i ∧ 0 ≤ σ 6 i ∧ σ 6 i ≤ 3 := by
  have h1 := h i hi.1 hi.2
  unfold zTm
  rw [h1.1.1, h1.1.2]
  refine ⟨?_, ?_, rfl, h1.2.1, h1.2.2.1⟩ <;> split <;> omega
theorem md_as {σ σ' : zM} {π : Nat} {P : zP} (hP : cPlan σ π P) (h : (σ' 5 6 = π ∧ σ' 5 7 = σ π 10 ∧ σ' 5 8 = 0 ∧ σ' 5 9 = -1) ∧ σ' 10 0 = 0 ∧ σ' 10 1 = 0 ∧ σ' 11 0 = -1 ∧ σ' 11 1 = -1) : cMd σ' (pL P, 0, [], -1) := by
  obtain ⟨⟨h1, h2, h3, h4⟩, h5, h6, h7, h8⟩ := h
  have q := hP.2.2.2.2.1.2.2.2.2
  have q' := hP.2.2.2.2.2.2.2.2.2.2.2.2
  unfold cMd
  rw [h2, h3, h4, h5, h6, h7, h8]
  refine ⟨⟨q, q'⟩, ⟨rfl, show (0 : Nat) < 256 by omega⟩, ⟨rfl, show -1 ≤ (-1 : Int) ∧ (-1 : Int) ≤ 9999 by omega⟩, by omega, by omega, by omega, by omega, fun t line ht => ?_⟩
  have e : ¬ ((-1 : Int) = t) := by omega
  simp [yEx, e]
theorem md_hu {σ : zM} {md : zMd} (h : cMd σ md) (v : Nat) (hv : v < 256) : cMd (zup σ 5 8 v) (md.1, v, md.2.2) := by
  obtain ⟨h1, h2, h3, h4⟩ := h
  unfold cMd
  simp (disch := omega) only [zup_eq, zup_nei, zup_ne]
  exact ⟨h1, ⟨trivial, hv⟩, h3, h4⟩
theorem md_law {σ : zM} {md : zMd} (h : cMd σ md) (v : Int) (hv : 0 ≤ v ∧ v ≤ 3) : cMd (zup σ 5 7 v) (v, md.2) := by
  obtain ⟨h1, h2, h3, h4⟩ := h
  unfold cMd
  simp (disch := omega) only [zup_eq, zup_nei, zup_ne]
  exact ⟨⟨trivial, hv⟩, h2, h3, h4⟩
theorem md_draw {σ : zM} {md : zMd} (h : cMd σ md) (v : Int) (hv : -1 ≤ v ∧ v ≤ 9999) : cMd (zup σ 5 9 v) (md.1, md.2.1, md.2.2.1, v) := by
  obtain ⟨h1, h2, h3, h4⟩ := h
  unfold cMd
  simp (disch := omega) only [zup_eq, zup_nei, zup_ne]
  exact ⟨h1, h2, ⟨trivial, hv⟩, h4⟩
theorem c_X5_timeWithout (σ : zM) (π : Nat) (hp : zPl π) (P : zP) (hP : cPlan σ π P) (i : Int) (hi : 0 ≤ i ∧ i < P.1.length) (hu : Nat) (hh : hu < 256) : zCi mX5_timeWithout (fun w => [zr w 4, zr w π, zi i, zi hu]) σ (fun r σ' => r = zTm (zFn P (pL P) hu []) i ∧ (0 ≤ r ∧ r ≤ 200) ∧ zfr 5 11 σ σ') := by
  refine zCi_mk (own := RX5) rfl (by decide +kernel) (fun w => [some (zr w 4), some (zr w π), some (zi i), some (zi hu)]) (fun _ => rfl) (fun _ => Nat.le_of_ble_eq_true rfl) ?_
  intro Γ h hr
  have hpi : 39 ≤ π := by unfold zPl at hp; omega
  have np10 := hP.2.2.2.2.2.1
  refine z_raload_n h dX5_timeWithout_0 rfl ?_
  refine z_getr h dX5_timeWithout_1 fX5_12 L4 rfl ?_
  refine z_raload_n h dX5_timeWithout_4 rfl ?_
  refine z_cVv1 h dX5_timeWithout_5 lX5_25 vX1_asTold rfl L5 (c_X1_asTold σ π hp) rfl (Nat.le_of_ble_eq_true rfl) (by decide) (fun σ1 h1 => ?_)
  have h2 := md_as hP h1.2
  have h3 := md_hu h2 hu hh
  refine z_raload_n h dX5_timeWithout_8 rfl ?_
  refine z_getr h dX5_timeWithout_9 fX5_12 L4 rfl ?_
  refine z_iload_n h dX5_timeWithout_12 rfl ?_
  refine y_put 8 h dX5_timeWithout_13 fX5_29 pX1_8 L5 rfl rfl ?_
  refine z_raload_n h dX5_timeWithout_16 rfl ?_
  refine z_getr h dX5_timeWithout_17 fX5_12 L4 rfl ?_
  refine z_sipush h dX5_timeWithout_20 (by decide) ?_
  refine z_cVv1 h dX5_timeWithout_23 lX5_33 vX1_runTo rfl L5 (c_X1_runTo (zup σ1 5 8 hu) π hp (by rw [zup_nei (by omega)]; exact h1.2.1.1) P (cPlan_fr hP (fun c a b i => by rw [zup_ne (by omega)]; exact h1.1 c (by omega) (by omega) (by omega) i)) _ h3 199 (by omega)) rfl (Nat.le_of_ble_eq_true rfl) (by decide) (fun σ2 h4 => ?_)
  have h5 : zfr 5 11 σ σ2 := fun c hc i => ((h4.1.1 c (by omega) i).trans (zup_ne (by omega))).trans (h1.1 c (by omega) (by omega) (by omega) i)
  have h6 := zTm_rg h4.2.2.1 (i := i) (by omega)
  refine z_raload_n h dX5_timeWithout_26 rfl ?_
  refine z_getr h dX5_timeWithout_27 fX5_12 L4 rfl ?_
  refine z_iload_n h dX5_timeWithout_30 rfl ?_
  refine z_cVi1 h dX5_timeWithout_31 lX5_37 vX1_timeOf rfl L5 (c_X1_timeOf σ2 i (by omega) (by omega)) rfl (Nat.le_of_ble_eq_true rfl) (by decide) (fun v σ3 h7 => ?_)
  obtain ⟨rfl, rfl⟩ := h7
  refine z_irI h hr dX5_timeWithout_34 ?_
  rw [h6.2.2.1]
  exact ⟨rfl, ⟨h6.1, h6.2.1⟩, h5⟩
def zWho (P : zP) (c : Nat) : Int := (P.2.1.getD c (0, 0)).1
def zGn (P : zP) (c : Nat) : Int := zTm (zFn P (pL P) (2 ^ c) []) (zWho P c) - zTm (zFn P (pL P) 0 []) (zWho P c) + 200
theorem zWho_at {σ : zM} {π : Nat} {P : zP} (hP : cPlan σ π P) {c : Nat} (hc : c < P.2.1.length) : σ (π + 5 + 1) c = zWho P c ∧ 0 ≤ zWho P c ∧ zWho P c < P.1.length := by
  have hx := List.getElem?_eq_getElem hc
  have e : zWho P c = P.2.1[c].1 := by unfold zWho; rw [List.getD_eq_getElem?_getD, hx]; rfl
  rw [e]
  exact ⟨(hP.2.2.2.1.2.2.1 c _ hx).1, hP.2.2.2.2.2.2.2.1 _ (List.getElem_mem hc)⟩
theorem zpow {c : Nat} (h : c < 8) : 2 ^ c < 256 := Nat.pow_lt_pow_right (by decide) h
theorem c_X5_gainedBy (σ : zM) (π : Nat) (hp : zPl π) (P : zP) (hP : cPlan σ π P) (c : Nat) (hc : c < P.2.1.length) : zCi mX5_gainedBy (fun w => [zr w 4, zr w π, zi c]) σ (fun r σ' => r = zGn P c ∧ (0 ≤ r ∧ r ≤ 400) ∧ zfr 5 11 σ σ') := by
  refine zCi_mk (own := RX5) rfl (by decide +kernel) (fun w => [some (zr w 4), some (zr w π), some (zi c), none]) (fun _ => rfl) (fun _ => Nat.le_of_ble_eq_true rfl) ?_
  intro Γ h hr
  have hpi : 39 ≤ π := by unfold zPl at hp; omega
  have h1 := zWho_at hP hc
  have h8 := hP.2.2.2.1.2.1
  refine z_raload_n h dX5_gainedBy_0 rfl ?_
  refine z_getr h dX5_gainedBy_1 fX5_41 (zPl_o hp) rfl ?_
  refine z_getr h dX5_gainedBy_4 fX5_47 (zCy_o (zPl_c hp)) rfl ?_
  refine z_iload_n h dX5_gainedBy_7 rfl ?_
  refine z_iald h dX5_gainedBy_8 (zCy_1 (zPl_c hp)) (by decide) (by omega) ?_
  rw [h1.1]
  refine z_ist1_n h dX5_gainedBy_9 (by decide) (zst1_3 rfl) ?_
  refine z_raload_n h dX5_gainedBy_10 rfl ?_
  refine z_raload_n h dX5_gainedBy_11 rfl ?_
  refine z_iload_n h dX5_gainedBy_12 rfl ?_
  refine z_iconst h dX5_gainedBy_13 ?_
  refine z_iload_n h dX5_gainedBy_14 rfl ?_
  refine z_ishl h dX5_gainedBy_15 ?_
  rw [zshl_1 (by omega), Int.toNat_natCast, show (2 : Int) ^ c = ((2 ^ c : Nat) : Int) by simp]
  refine z_cVi3 h dX5_gainedBy_16 lX5_52 vX5_timeWithout rfl L4 (c_X5_timeWithout σ π hp P hP (zWho P c) h1.2 (2 ^ c) (zpow (by omega))) rfl (Nat.le_of_ble_eq_true rfl) (by decide) (fun v σ1 g1 => ?_)
  refine z_raload_n h dX5_gainedBy_19 rfl ?_
  refine z_raload_n h dX5_gainedBy_20 rfl ?_
  refine z_iload_n h dX5_gainedBy_21 rfl ?_
  refine z_iconst h dX5_gainedBy_22 ?_
  refine z_cVi3 h dX5_gainedBy_23 lX5_52 vX5_timeWithout rfl L4 (c_X5_timeWithout σ1 π hp P (cPlan_fr hP (fun c a b i => g1.2.2 c (by omega) i)) (zWho P c) h1.2 0 (by omega)) rfl (Nat.le_of_ble_eq_true rfl) (by decide) (fun v2 σ2 g2 => ?_)
  refine z_isub h dX5_gainedBy_26 ?_
  refine z_sipush h dX5_gainedBy_27 (by decide) ?_
  refine z_iadd h dX5_gainedBy_30 ?_
  refine z_irI h hr dX5_gainedBy_31 ?_
  refine ⟨?_, by omega, zfr_tr g1.2.2 g2.2.2⟩
  unfold zGn
  rw [g1.1, g2.1]
/-- the cry by which most was gained -/
def zMs (P : zP) : Nat → Int × Int
  | 0 => (-4, -1)
  | c + 1 => if (zMs P c).2 < zGn P c then ((c : Int), zGn P c) else zMs P c
theorem c_X5_mostGained (σ : zM) (π : Nat) (hp : zPl π) (P : zP) (hP : cPlan σ π P) : zCi mX5_mostGained (fun w => [zr w 4, zr w π]) σ (fun r σ' => r = (zMs P P.2.1.length).1 ∧ (-4 ≤ r ∧ r ≤ 8) ∧ zfr 5 11 σ σ') := by
  refine zCi_mk (own := RX5) rfl (by decide +kernel) (fun w => [some (zr w 4), some (zr w π), none, none, none, none]) (fun _ => rfl) (fun _ => Nat.le_of_ble_eq_true rfl) ?_
  intro Γ h hr
  have hpi : 39 ≤ π := by unfold zPl at hp; omega
  have L : ∀ (n c : Nat) (σ1 : zM) (l5 : Option Value), c + n = P.2.1.length → zfr 5 11 σ σ1 → -4 ≤ (zMs P c).1 ∧ (zMs P c).1 ≤ 8 → -1 ≤ (zMs P c).2 ∧ (zMs P c).2 ≤ 400 → zV Γ σ1 8 [some (zr (zw Γ) 4), some (zr (zw Γ) π), some (zi (zMs P c).1), some (zi (zMs P c).2), some (zi c), l5] [] := by
    intro n
    induction n with
    | zero =>
      intro c σ1 l5 h1 h2 h3 h4
      have hP1 := cPlan_fr hP (σ' := σ1) (fun c a b i => h2 c (by omega) i)
      have h5 := hP1.2.2.2.1.1
      have h6 := hP1.2.2.2.1.2.1
      refine z_iload h dX5_mostGained_8 rfl ?_
      refine z_raload_n h dX5_mostGained_10 rfl ?_
      refine z_getr h dX5_mostGained_11 fX5_41 (zPl_o hp) rfl ?_
      refine y_get 3 h dX5_mostGained_14 fX5_56 (zCy_o (zPl_c hp)) rfl rfl ?_
      refine z_icmp_ge h dX5_mostGained_17 (by omega) (by omega) (fun b17 => ?_) (fun b17 => by exfalso; omega)
      refine z_iload_n h dX5_mostGained_47 rfl ?_
      refine z_irI h hr dX5_mostGained_48 ?_
      rw [show P.2.1.length = c by omega]
      exact ⟨rfl, h3, h2⟩
    | succ n ih =>
      intro c σ1 l5 h1 h2 h3 h4
      have hP1 := cPlan_fr hP (σ' := σ1) (fun c a b i => h2 c (by omega) i)
      have h5 := hP1.2.2.2.1.1
      have h6 := hP1.2.2.2.1.2.1
      have e : zMs P (c + 1) = if (zMs P c).2 < zGn P c then ((c : Int), zGn P c) else zMs P c := rfl
      refine z_iload h dX5_mostGained_8 rfl ?_
      refine z_raload_n h dX5_mostGained_10 rfl ?_
      refine z_getr h dX5_mostGained_11 fX5_41 (zPl_o hp) rfl ?_
      refine y_get 3 h dX5_mostGained_14 fX5_56 (zCy_o (zPl_c hp)) rfl rfl ?_
      refine z_icmp_ge h dX5_mostGained_17 (by omega) (by omega) (fun b17 => by exfalso; omega) (fun b17 => ?_)
      refine z_raload_n h dX5_mostGained_20 rfl ?_
      refine z_raload_n h dX5_mostGained_21 rfl ?_
      refine z_iload h dX5_mostGained_22 rfl ?_
      refine z_cVi2 h dX5_mostGained_24 lX5_59 vX5_gainedBy rfl L4 (c_X5_gainedBy σ1 π hp P hP1 c (by omega)) rfl (Nat.le_of_ble_eq_true rfl) (by decide) (fun v σ2 g1 => ?_)
      obtain ⟨rfl, g2, g3⟩ := g1
      refine z_ist1 h dX5_mostGained_27 (by decide) (zst1_5 rfl) ?_
      refine z_iload h dX5_mostGained_29 rfl ?_
      refine z_iload_n h dX5_mostGained_31 rfl ?_
      refine z_icmp_le h dX5_mostGained_32 (by omega) (by omega) (fun b32 => ?_) (fun b32 => ?_)
      · refine z_iinc h dX5_mostGained_41 (by decide) rfl (zst1_4 rfl) ?_
        refine z_goto h dX5_mostGained_44 ?_
        have := ih (c + 1) σ2 (some (zi (zGn P c))) (by omega) (zfr_tr h2 g3)
        by_cases z : (zMs P c).2 < zGn P c
        · rw [e, if_pos z] at this
          first | exact this (by simp; omega) (by simp; omega) | (exfalso; omega)
        · rw [e, if_neg z] at this
          first | exact this (by omega) (by omega) | (exfalso; omega)
      · refine z_iload h dX5_mostGained_35 rfl ?_
        refine z_ist1_n h dX5_mostGained_37 (by decide) (zst1_3 rfl) ?_
        refine z_iload h dX5_mostGained_38 rfl ?_
        refine z_ist1_n h dX5_mostGained_40 (by decide) (zst1_2 rfl) ?_
        refine z_iinc h dX5_mostGained_41 (by decide) rfl (zst1_4 rfl) ?_
        refine z_goto h dX5_mostGained_44 ?_
        have := ih (c + 1) σ2 (some (zi (zGn P c))) (by omega) (zfr_tr h2 g3)
        by_cases z : (zMs P c).2 < zGn P c
        · rw [e, if_pos z] at this
          first | exact this (by simp; omega) (by simp; omega) | (exfalso; omega)
        · rw [e, if_neg z] at this
          first | exact this (by omega) (by omega) | (exfalso; omega)
  refine z_bipush h dX5_mostGained_0 (by decide) ?_
  refine z_ist1_n h dX5_mostGained_2 (by decide) (zst1_2 rfl) ?_
  refine z_iconst h dX5_mostGained_3 ?_
  refine z_ist1_n h dX5_mostGained_4 (by decide) (zst1_3 rfl) ?_
  refine z_iconst h dX5_mostGained_5 ?_
  refine z_ist1 h dX5_mostGained_6 (by decide) (zst1_4 rfl) ?_
  exact L P.2.1.length 0 σ none (by omega) zfr_rf (by simp [zMs]) (by simp [zMs])
def zon (s : Nat) : Nat := s % 2 + s / 2 % 2 + s / 4 % 2 + s / 8 % 2 + s / 16 % 2 + s / 32 % 2 + s / 64 % 2 + s / 128 % 2
theorem zon_le (s : Nat) : zon s ≤ 8 := by unfold zon; omega
def zbcv (a : Int) : Int :=
  let b := a - zand (zushr a 1) 1431655765
  let c := zand b 858993459 + zand (zushr b 2) 858993459
  let d := zand (c + zushr c 4) 252645135
  let e := d + zushr d 8
  let f := e + zushr e 16
  zand f 63
theorem zbcv_ok : ∀ s : Fin 256, zbcv ((s.val : Nat) : Int) = zon s.val := by decide +kernel
theorem c_bitCount (σ : zM) (s : Nat) (hs : s < 256) : zCi mJ6_bitCount_0f7a4 (fun w => [zi s]) σ (fun r σ' => r = zon s ∧ σ' = σ) := by
  refine zCi_mk (own := RJ6) rfl (by decide +kernel) (fun w => [some (zi s)]) (fun _ => rfl) (fun _ => Nat.le_of_ble_eq_true rfl) ?_
  intro Γ h hr
  refine z_iload_n h dJ6_bitCount_0f7a4_0 rfl ?_
  refine z_iload_n h dJ6_bitCount_0f7a4_1 rfl ?_
  refine z_iconst h dJ6_bitCount_0f7a4_2 ?_
  refine z_iushr h dJ6_bitCount_0f7a4_3 ?_
  refine z_ldcw (x := 1431655765) h dJ6_bitCount_0f7a4_4 kJ6_265 (by decide) ?_
  refine z_iand h dJ6_bitCount_0f7a4_7 ?_
  refine z_isub h dJ6_bitCount_0f7a4_8 ?_
  refine z_ist1_n h dJ6_bitCount_0f7a4_9 (by decide) zst1_0 ?_
  refine z_iload_n h dJ6_bitCount_0f7a4_10 rfl ?_
  refine z_ldcw (x := 858993459) h dJ6_bitCount_0f7a4_11 kJ6_266 (by decide) ?_
  refine z_iand h dJ6_bitCount_0f7a4_14 ?_
  refine z_iload_n h dJ6_bitCount_0f7a4_15 rfl ?_
  refine z_iconst h dJ6_bitCount_0f7a4_16 ?_
  refine z_iushr h dJ6_bitCount_0f7a4_17 ?_
  refine z_ldcw (x := 858993459) h dJ6_bitCount_0f7a4_18 kJ6_266 (by decide) ?_
  refine z_iand h dJ6_bitCount_0f7a4_21 ?_
  refine z_iadd h dJ6_bitCount_0f7a4_22 ?_
  refine z_ist1_n h dJ6_bitCount_0f7a4_23 (by decide) zst1_0 ?_
  refine z_iload_n h dJ6_bitCount_0f7a4_24 rfl ?_
  refine z_iload_n h dJ6_bitCount_0f7a4_25 rfl ?_
  refine z_iconst h dJ6_bitCount_0f7a4_26 ?_
  refine z_iushr h dJ6_bitCount_0f7a4_27 ?_
  refine z_iadd h dJ6_bitCount_0f7a4_28 ?_
  refine z_ldcw (x := 252645135) h dJ6_bitCount_0f7a4_29 kJ6_267 (by decide) ?_
  refine z_iand h dJ6_bitCount_0f7a4_32 ?_
  refine z_ist1_n h dJ6_bitCount_0f7a4_33 (by decide) zst1_0 ?_
  refine z_iload_n h dJ6_bitCount_0f7a4_34 rfl ?_
  refine z_iload_n h dJ6_bitCount_0f7a4_35 rfl ?_
  refine z_bipush h dJ6_bitCount_0f7a4_36 (by decide) ?_
  refine z_iushr h dJ6_bitCount_0f7a4_38 ?_
  refine z_iadd h dJ6_bitCount_0f7a4_39 ?_
  refine z_ist1_n h dJ6_bitCount_0f7a4_40 (by decide) zst1_0 ?_
  refine z_iload_n h dJ6_bitCount_0f7a4_41 rfl ?_
  refine z_iload_n h dJ6_bitCount_0f7a4_42 rfl ?_
  refine z_bipush h dJ6_bitCount_0f7a4_43 (by decide) ?_
  refine z_iushr h dJ6_bitCount_0f7a4_45 ?_
  refine z_iadd h dJ6_bitCount_0f7a4_46 ?_
  refine z_ist1_n h dJ6_bitCount_0f7a4_47 (by decide) zst1_0 ?_
  refine z_iload_n h dJ6_bitCount_0f7a4_48 rfl ?_
  refine z_bipush h dJ6_bitCount_0f7a4_49 (by decide) ?_
  refine z_iand h dJ6_bitCount_0f7a4_51 ?_
  refine z_irI h hr dJ6_bitCount_0f7a4_52 ?_
  exact ⟨zbcv_ok ⟨s, hs⟩, rfl⟩
theorem c_X5_isServedBy (σ : zM) (π : Nat) (hp : zPl π) (P : zP) (hP : cPlan σ π P) (i : Int) (hi : 0 ≤ i ∧ i < P.1.length) (m : Nat) (hm : m ≤ 199) (hu : Nat) (hh : hu < 256) : zCi mX5_isServedBy (fun w => [zr w 4, zr w π, zi i, zi m, zi hu]) σ (fun r σ' => r = zb (decide ((sRun P (pL P, hu, [], -1) (m + 1)).2.1 i = 0)) ∧ zfr 5 11 σ σ') := by
  refine zCi_mk (own := RX5) rfl (by decide +kernel) (fun w => [some (zr w 4), some (zr w π), some (zi i), some (zi m), some (zi hu)]) (fun _ => rfl) (fun _ => Nat.le_of_ble_eq_true rfl) ?_
  intro Γ h hr
  have hpi : 39 ≤ π := by unfold zPl at hp; omega
  have np10 := hP.2.2.2.2.2.1
  refine z_raload_n h dX5_isServedBy_0 rfl ?_
  refine z_getr h dX5_isServedBy_1 fX5_12 L4 rfl ?_
  refine z_raload_n h dX5_isServedBy_4 rfl ?_
  refine z_cVv1 h dX5_isServedBy_5 lX5_25 vX1_asTold rfl L5 (c_X1_asTold σ π hp) rfl (Nat.le_of_ble_eq_true rfl) (by decide) (fun σ1 h1 => ?_)
  have h2 := md_as hP h1.2
  have h3 := md_hu h2 hu hh
  refine z_raload_n h dX5_isServedBy_8 rfl ?_
  refine z_getr h dX5_isServedBy_9 fX5_12 L4 rfl ?_
  refine z_iload h dX5_isServedBy_12 rfl ?_
  refine y_put 8 h dX5_isServedBy_14 fX5_29 pX1_8 L5 rfl rfl ?_
  refine z_raload_n h dX5_isServedBy_17 rfl ?_
  refine z_getr h dX5_isServedBy_18 fX5_12 L4 rfl ?_
  refine z_iload_n h dX5_isServedBy_21 rfl ?_
  refine z_cVv1 h dX5_isServedBy_22 lX5_33 vX1_runTo rfl L5 (c_X1_runTo (zup σ1 5 8 hu) π hp (by rw [zup_nei (by omega)]; exact h1.2.1.1) P (cPlan_fr hP (fun c a b i => by rw [zup_ne (by omega)]; exact h1.1 c (by omega) (by omega) (by omega) i)) _ h3 m hm) rfl (Nat.le_of_ble_eq_true rfl) (by decide) (fun σ2 h4 => ?_)
  have h5 : zfr 5 11 σ σ2 := fun c hc i => ((h4.1.1 c (by omega) i).trans (zup_ne (by omega))).trans (h1.1 c (by omega) (by omega) (by omega) i)
  have h6 := h4.2.2.1 i (by omega) (by omega)
  have h7 : (sRun P (pL P, hu, [], -1) (m + 1)).2.1 i = σ2 6 i := h6.1.1.symm
  rw [h7] at hr
  have h8 : 0 ≤ σ2 6 i ∧ σ2 6 i ≤ 3 := by (rw [h6.1.1]; exact ⟨h6.2.1, h6.2.2.1⟩)
  refine z_raload_n h dX5_isServedBy_25 rfl ?_
  refine z_getr h dX5_isServedBy_26 fX5_12 L4 rfl ?_
  refine z_getr h dX5_isServedBy_29 fX5_72 L5 rfl ?_
  refine z_iload_n h dX5_isServedBy_32 rfl ?_
  refine z_iald h dX5_isServedBy_33 L6 (by decide) (by omega) ?_
  refine z_if_ne h dX5_isServedBy_34 (by omega) (fun b34 => ?_) (fun b34 => ?_)
  · refine z_iconst h dX5_isServedBy_41 ?_
    refine z_irZ h hr dX5_isServedBy_42 (by first | decide | omega | simp_all) ?_
    refine ⟨?_, h5⟩
    by_cases z : σ2 6 i = 0
    · rw [decide_eq_true z]; first | rfl | (exfalso; omega)
    · rw [decide_eq_false z]; first | rfl | (exfalso; omega)
  · refine z_iconst h dX5_isServedBy_37 ?_
    refine z_goto h dX5_isServedBy_38 ?_
    refine z_irZ h hr dX5_isServedBy_42 (by first | decide | omega | simp_all) ?_
    refine ⟨?_, h5⟩
    by_cases z : σ2 6 i = 0
    · rw [decide_eq_true z]; first | rfl | (exfalso; omega)
    · rw [decide_eq_false z]; first | rfl | (exfalso; omega)
/-- a set of fewest bits, of several the lowest, of those below N that f holds of; -4 if there is none -/
def hOk (f : Nat → Bool) (N : Nat) (r : Int) : Prop := (r = -4 ∧ ∀ s, s < N → f s = false) ∨ ∃ s : Nat, s < N ∧ r = s ∧ f s = true ∧ ∀ s', s' < N → f s' = true → zon s < zon s' ∨ (zon s = zon s' ∧ s ≤ s')
theorem hOk_one {f : Nat → Bool} {N : Nat} {r r' : Int} (h : hOk f N r) (h' : hOk f N r') : r = r' := by
  rcases h with ⟨rfl, h1⟩ | ⟨s, h1, rfl, h2, h3⟩
  · rcases h' with ⟨rfl, h4⟩ | ⟨s', h4, rfl, h5, h6⟩
    · rfl
    · rw [h1 s' h4] at h5; cases h5
  · rcases h' with ⟨rfl, h4⟩ | ⟨s', h4, rfl, h5, h6⟩
    · rw [h4 s h1] at h2; cases h2
    · have a := h3 s' h4 h5
      have b := h6 s h1 h2
      omega
def zSv (P : zP) (i : Int) (m : Nat) (hu : Nat) : Bool := decide ((sRun P (pL P, hu, [], -1) (m + 1)).2.1 i = 0)
theorem c_X5_fewestHushed (σ : zM) (π : Nat) (hp : zPl π) (P : zP) (hP : cPlan σ π P) (i : Int) (hi : 0 ≤ i ∧ i < P.1.length) (m : Nat) (hm : m ≤ 199) : zCi mX5_fewestHushed (fun w => [zr w 4, zr w π, zi i, zi m]) σ (fun r σ' => hOk (zSv P i m) (2 ^ P.2.1.length) r ∧ zfr 5 11 σ σ') := by
  refine zCi_mk (own := RX5) rfl (by decide +kernel) (fun w => [some (zr w 4), some (zr w π), some (zi i), some (zi m), none, none, none]) (fun _ => rfl) (fun _ => Nat.le_of_ble_eq_true rfl) ?_
  intro Γ h hr
  have hpi : 39 ≤ π := by unfold zPl at hp; omega
  have h8 := hP.2.2.2.1.2.1
  have h9 := hP.2.2.2.1.1
  have hN : 2 ^ P.2.1.length ≤ 256 := Nat.pow_le_pow_right (by decide) h8
  obtain ⟨N, hNe⟩ : ∃ N, N = 2 ^ P.2.1.length := ⟨_, rfl⟩
  have hsz : ∀ σ1, zfr 5 11 σ σ1 → σ1 (π + 5) 3 = P.2.1.length := fun σ1 h => by rw [h _ (by omega)]; exact h9
  have hbits : ∀ s : Nat, s < N → zon s ≤ P.2.1.length := by
    have key : ∀ n : Fin 9, ∀ s : Fin 256, s.val < 2 ^ n.val → zon s.val ≤ n.val := by decide +kernel
    intro s hs
    exact key ⟨P.2.1.length, by omega⟩ ⟨s, by omega⟩ (by rw [← hNe]; exact hs)
  rw [← hNe] at hr
  have L : ∀ (n few : Nat) (σ1 : zM) (l6 : Option Value), few + n = P.2.1.length + 1 → zfr 5 11 σ σ1 → (∀ s, s < N → zSv P i m s = true → few ≤ zon s) → zV Γ σ1 14 [some (zr (zw Γ) 4), some (zr (zw Γ) π), some (zi i), some (zi m), some (zi N), some (zi few), l6] [] := by
    intro n
    induction n with
    | zero =>
      intro few σ1 l6 h1 h2 h3
      have e := hsz σ1 h2
      refine z_iload h dX5_fewestHushed_14 rfl ?_
      refine z_raload_n h dX5_fewestHushed_16 rfl ?_
      refine z_getr h dX5_fewestHushed_17 fX5_41 (zPl_o hp) rfl ?_
      refine y_get 3 h dX5_fewestHushed_20 fX5_56 (zCy_o (zPl_c hp)) rfl rfl ?_
      refine z_icmp_gt h dX5_fewestHushed_23 (by omega) (by omega) (fun b23 => ?_) (fun b23 => by exfalso; omega)
      refine z_bipush h dX5_fewestHushed_73 (by decide) ?_
      refine z_irI h hr dX5_fewestHushed_75 ?_
      refine ⟨Or.inl ⟨rfl, fun s hs => ?_⟩, h2⟩
      cases z : zSv P i m s
      · rfl
      · have := h3 s hs z
        have := hbits s hs
        omega
    | succ n ih =>
      intro few σ1 l6 h1 h2 h3
      have e := hsz σ1 h2
      have L2 : ∀ (r s : Nat) (σ2 : zM), s + r = N → zfr 5 11 σ σ2 → (∀ s', s' < s → zSv P i m s' = true → few + 1 ≤ zon s') → zV Γ σ2 29 [some (zr (zw Γ) 4), some (zr (zw Γ) π), some (zi i), some (zi m), some (zi N), some (zi few), some (zi s)] [] := by
        intro r
        induction r with
        | zero =>
          intro s σ2 g1 g2 g3
          refine z_iload h dX5_fewestHushed_29 rfl ?_
          refine z_iload h dX5_fewestHushed_31 rfl ?_
          refine z_icmp_ge h dX5_fewestHushed_33 (by omega) (by omega) (fun b33 => ?_) (fun b33 => by exfalso; omega)
          refine z_iinc h dX5_fewestHushed_67 (by decide) rfl (zst1_5 rfl) ?_
          refine z_goto h dX5_fewestHushed_70 ?_
          exact ih (few + 1) σ2 _ (by omega) g2 (fun s' hs' z => g3 s' (by omega) z)
        | succ r ih2 =>
          intro s σ2 g1 g2 g3
          have hz8 := zon_le s
          refine z_iload h dX5_fewestHushed_29 rfl ?_
          refine z_iload h dX5_fewestHushed_31 rfl ?_
          refine z_icmp_ge h dX5_fewestHushed_33 (by omega) (by omega) (fun b33 => by exfalso; omega) (fun b33 => ?_)
          refine z_iload h dX5_fewestHushed_36 rfl ?_
          refine z_cSi1 h dX5_fewestHushed_38 lX5_63 vJ6_bitCount_0f7a4 (c_bitCount σ2 s (by omega)) rfl (Nat.le_of_ble_eq_true rfl) (by decide) (fun v σ3 g4 => ?_)
          obtain ⟨rfl, rfl⟩ := g4
          refine z_iload h dX5_fewestHushed_41 rfl ?_
          refine z_icmp_ne h dX5_fewestHushed_43 (by omega) (by omega) (fun b43 => ?_) (fun b43 => ?_)
          · refine z_iinc h dX5_fewestHushed_61 (by decide) rfl (zst1_6 rfl) ?_
            refine z_goto h dX5_fewestHushed_64 ?_
            refine ih2 (s + 1) _ (by omega) (by first | exact zfr_tr g2 g6 | exact g2) (fun s' hs' z => ?_)
            by_cases es : s' = s
            · subst es
              have z1 := h3 s' (by omega) z
              by_cases en : zon s' = few
              · exfalso
                first
                  | omega
                  | (have z2 : decide ((sRun P (pL P, s', [], -1) (m + 1)).2.1 i = 0) = true := z
                     rw [z2] at b55
                     exact absurd b55 (by decide))
              · omega
            · exact g3 s' (by omega) z
          · refine z_raload_n h dX5_fewestHushed_46 rfl ?_
            refine z_raload_n h dX5_fewestHushed_47 rfl ?_
            refine z_iload_n h dX5_fewestHushed_48 rfl ?_
            refine z_iload_n h dX5_fewestHushed_49 rfl ?_
            refine z_iload h dX5_fewestHushed_50 rfl ?_
            refine z_cVi4 h dX5_fewestHushed_52 lX5_68 vX5_isServedBy rfl L4 (c_X5_isServedBy σ3 π hp P (cPlan_fr hP (fun c a b i => g2 c (by omega) i)) i hi m hm s (by omega)) rfl (Nat.le_of_ble_eq_true rfl) (by decide) (fun v2 σ4 g5 => ?_)
            obtain ⟨rfl, g6⟩ := g5
            refine z_if_eq h dX5_fewestHushed_55 (by (cases decide ((sRun P (pL P, s, [], -1) (m + 1)).2.1 i = 0) <;> decide)) (fun b55 => ?_) (fun b55 => ?_)
            · refine z_iinc h dX5_fewestHushed_61 (by decide) rfl (zst1_6 rfl) ?_
              refine z_goto h dX5_fewestHushed_64 ?_
              refine ih2 (s + 1) _ (by omega) (by first | exact zfr_tr g2 g6 | exact g2) (fun s' hs' z => ?_)
              by_cases es : s' = s
              · subst es
                have z1 := h3 s' (by omega) z
                by_cases en : zon s' = few
                · exfalso
                  first
                    | omega
                    | (have z2 : decide ((sRun P (pL P, s', [], -1) (m + 1)).2.1 i = 0) = true := z
                       rw [z2] at b55
                       exact absurd b55 (by decide))
                · omega
              · exact g3 s' (by omega) z
            · refine z_iload h dX5_fewestHushed_58 rfl ?_
              refine z_irI h hr dX5_fewestHushed_60 ?_
              have z : zSv P i m s = true := by (show decide ((sRun P (pL P, s, [], -1) (m + 1)).2.1 i = 0) = true; cases zz : decide ((sRun P (pL P, s, [], -1) (m + 1)).2.1 i = 0) with | true => rfl | false => rw [zz] at b55; exact absurd rfl b55)
              refine ⟨Or.inr ⟨s, by omega, rfl, z, fun s' hs' z' => ?_⟩, zfr_tr g2 g6⟩
              have := h3 s' hs' z'
              by_cases es : s' < s
              · have := g3 s' es z'
                omega
              · omega
      refine z_iload h dX5_fewestHushed_14 rfl ?_
      refine z_raload_n h dX5_fewestHushed_16 rfl ?_
      refine z_getr h dX5_fewestHushed_17 fX5_41 (zPl_o hp) rfl ?_
      refine y_get 3 h dX5_fewestHushed_20 fX5_56 (zCy_o (zPl_c hp)) rfl rfl ?_
      refine z_icmp_gt h dX5_fewestHushed_23 (by omega) (by omega) (fun b23 => by exfalso; omega) (fun b23 => ?_)
      refine z_iconst h dX5_fewestHushed_26 ?_
      refine z_ist1 h dX5_fewestHushed_27 (by decide) (zst1_6 rfl) ?_
      exact L2 N 0 σ1 (by omega) h2 (fun s' hs' => by omega)
  refine z_iconst h dX5_fewestHushed_0 ?_
  refine z_raload_n h dX5_fewestHushed_1 rfl ?_
  refine z_getr h dX5_fewestHushed_2 fX5_41 (zPl_o hp) rfl ?_
  refine y_get 3 h dX5_fewestHushed_5 fX5_56 (zCy_o (zPl_c hp)) rfl rfl ?_
  refine z_ishl h dX5_fewestHushed_8 ?_
  rw [h9, zshl_1 (by omega), Int.toNat_natCast, show (2 : Int) ^ P.2.1.length = ((2 ^ P.2.1.length : Nat) : Int) by simp, ← hNe]
  refine z_ist1 h dX5_fewestHushed_9 (by decide) (zst1_4 rfl) ?_
  refine z_iconst h dX5_fewestHushed_11 ?_
  refine z_ist1 h dX5_fewestHushed_12 (by decide) (zst1_5 rfl) ?_
  exact L (P.2.1.length + 1) 0 σ none (by omega) zfr_rf (fun s _ _ => by omega)
