/-- the minute of one more cry by which it is earliest, and that time: of the first x minutes -/
def zAg (P : zP) (i : Int) : Nat → Int × Int
  | 0 => (-4, zTm (zFn P (pL P) 0 []) i)
  | x + 1 => if zTm (zFn P (pL P) 0 [(i, (x : Int))]) i < (zAg P i x).2 then ((x : Int), zTm (zFn P (pL P) 0 [(i, (x : Int))]) i) else zAg P i x
theorem zAg_le (P : zP) (i : Int) : ∀ x : Nat, -4 ≤ (zAg P i x).1 ∧ (zAg P i x).1 ≤ x ∧ ((zAg P i x).1 < 0 → (zAg P i x).1 = -4 ∧ (zAg P i x).2 = zTm (zFn P (pL P) 0 []) i) ∧ (0 ≤ (zAg P i x).1 → (zAg P i x).2 < zTm (zFn P (pL P) 0 []) i) ∧ (zAg P i x).2 ≤ zTm (zFn P (pL P) 0 []) i
  | 0 => by simp [zAg]
  | x + 1 => by
    have ih := zAg_le P i x
    unfold zAg
    split
    · next h => simp only; omega
    · omega
theorem md_ex1 {σ : zM} {l : Int} {hu : Nat} {i x : Int} (h : cMd σ (l, hu, [], -1)) (hi : 0 ≤ i ∧ i < 10) (hx : -1 ≤ x ∧ x < 200) (h1 : σ 11 1 = -1) : cMd (zup (zup σ 10 0 i) 11 0 x) (l, hu, [(i, x)], -1) := by
  obtain ⟨a1, a2, a3, a4, a5, a6, a7, a8⟩ := h
  unfold cMd
  simp (disch := omega) only [zup_eq, zup_nei, zup_ne]
  refine ⟨a1, a2, a3, hi, a5, hx, a7, fun t line ht => ?_⟩
  rw [h1]
  have e : ¬ ((-1 : Int) = t) := by omega
  simp [yEx, e]
theorem md_ex2 {σ : zM} {l : Int} {hu : Nat} {i x j y : Int} (h : cMd σ (l, hu, [], -1)) (hi : 0 ≤ i ∧ i < 10) (hx : -1 ≤ x ∧ x < 200) (hj : 0 ≤ j ∧ j < 10) (hy : -1 ≤ y ∧ y < 200) : cMd (zup (zup (zup (zup σ 10 0 i) 11 0 x) 10 1 j) 11 1 y) (l, hu, [(i, x), (j, y)], -1) := by
  obtain ⟨a1, a2, a3, a4, a5, a6, a7, a8⟩ := h
  unfold cMd
  simp (disch := omega) only [zup_eq, zup_nei, zup_ne]
  exact ⟨a1, a2, a3, hi, hj, hx, hy, fun _ _ _ => trivial⟩
theorem c_X5_cryOnceMore (σ : zM) (π : Nat) (hp : zPl π) (P : zP) (hP : cPlan σ π P) (i : Int) (hi : 0 ≤ i ∧ i < P.1.length) : zCv mX5_cryOnceMore (fun w => [zr w 4, zr w π, zi i]) σ (fun σ' => zfr 4 11 σ σ' ∧ (σ' 4 4 = zTm (zFn P (pL P) 0 []) i - (zAg P i 100).2 ∧ 0 ≤ σ' 4 4 ∧ σ' 4 4 ≤ 200) ∧ (0 ≤ (zAg P i 100).1 → σ' 4 3 = (zAg P i 100).1)) := by
  refine zCv_mk (own := RX5) rfl (by decide +kernel) (fun w => [some (zr w 4), some (zr w π), some (zi i), none, none, none]) (fun _ => rfl) (fun _ => Nat.le_of_ble_eq_true rfl) ?_
  intro Γ h hr
  have hpi : 39 ≤ π := by unfold zPl at hp; omega
  have np10 := hP.2.2.2.2.2.1
  have L : ∀ (n x : Nat) (σ1 : zM), x + n = 100 → zfr 4 11 σ σ1 → (0 ≤ (zAg P i x).1 → σ1 4 3 = (zAg P i x).1) → 0 ≤ (zAg P i x).2 → (zAg P i x).2 ≤ 200 → 0 ≤ zTm (zFn P (pL P) 0 []) i → zTm (zFn P (pL P) 0 []) i ≤ 200 → zV Γ σ1 19 [some (zr (zw Γ) 4), some (zr (zw Γ) π), some (zi i), some (zi (zTm (zFn P (pL P) 0 []) i)), some (zi (zAg P i x).2), some (zi x)] [] := by
    intro n
    induction n with
    | zero =>
      intro x σ1 h1 h2 h3 h4 h5 h6 h7
      have hle := zAg_le P i x
      refine z_iload h dX5_cryOnceMore_19 rfl ?_
      refine z_bipush h dX5_cryOnceMore_21 (by decide) ?_
      refine z_icmp_ge h dX5_cryOnceMore_23 (by omega) (by omega) (fun b23 => ?_) (fun b23 => by exfalso; omega)
      refine z_raload_n h dX5_cryOnceMore_90 rfl ?_
      refine z_iload_n h dX5_cryOnceMore_91 rfl ?_
      refine z_iload h dX5_cryOnceMore_92 rfl ?_
      refine z_isub h dX5_cryOnceMore_94 ?_
      refine y_put 4 h dX5_cryOnceMore_95 fX5_82 pX5_4 L4 rfl rfl ?_
      refine z_irV h hr dX5_cryOnceMore_98 ?_
      have ex : x = 100 := by omega
      subst ex
      refine ⟨zfr_up h2 (by omega) (by omega), ?_, fun z => ?_⟩
      · rw [zup_eq]; omega
      · rw [zup_nei (by omega)]; exact h3 z
    | succ n ih =>
      intro x σ1 h1 h2 h3 h4 h5 h6 h7
      have hP1 := cPlan_fr hP (σ' := σ1) (fun c a b i => h2 c (by omega) i)
      have e : zAg P i (x + 1) = if zTm (zFn P (pL P) 0 [(i, (x : Int))]) i < (zAg P i x).2 then ((x : Int), zTm (zFn P (pL P) 0 [(i, (x : Int))]) i) else zAg P i x := rfl
      refine z_iload h dX5_cryOnceMore_19 rfl ?_
      refine z_bipush h dX5_cryOnceMore_21 (by decide) ?_
      refine z_icmp_ge h dX5_cryOnceMore_23 (by omega) (by omega) (fun b23 => by exfalso; omega) (fun b23 => ?_)
      refine z_raload_n h dX5_cryOnceMore_26 rfl ?_
      refine z_getr h dX5_cryOnceMore_27 fX5_12 L4 rfl ?_
      refine z_raload_n h dX5_cryOnceMore_30 rfl ?_
      refine z_cVv1 h dX5_cryOnceMore_31 lX5_25 vX1_asTold rfl L5 (c_X1_asTold σ1 π hp) rfl (Nat.le_of_ble_eq_true rfl) (by decide) (fun σ2 g1 => ?_)
      have g2 := md_as hP1 g1.2
      have hP2 := cPlan_fr hP1 (σ' := σ2) (fun c a b i => g1.1 c (by omega) (by omega) (by omega) i)
      refine z_raload_n h dX5_cryOnceMore_34 rfl ?_
      refine z_getr h dX5_cryOnceMore_35 fX5_12 L4 rfl ?_
      refine z_iconst h dX5_cryOnceMore_38 ?_
      refine z_iload_n h dX5_cryOnceMore_39 rfl ?_
      refine z_iload h dX5_cryOnceMore_40 rfl ?_
      refine z_cVv3 h dX5_cryOnceMore_42 lX5_78 vX1_addExtra rfl L5 (c_X1_addExtra σ2 π hp g1.2.1.1 P hP2 0 i x (Or.inl rfl) hi) rfl (Nat.le_of_ble_eq_true rfl) (by decide) (fun σ3 g3 => ?_)
      subst g3
      have g4 := md_ex1 (i := i) (x := x) g2 (by omega) (show -1 ≤ (x : Int) ∧ (x : Int) < 200 by omega) g1.2.2.2.2.2
      refine z_raload_n h dX5_cryOnceMore_45 rfl ?_
      refine z_getr h dX5_cryOnceMore_46 fX5_12 L4 rfl ?_
      refine z_sipush h dX5_cryOnceMore_49 (by decide) ?_
      refine z_cVv1 h dX5_cryOnceMore_52 lX5_33 vX1_runTo rfl L5 (c_X1_runTo _ π hp (by simp (disch := omega) only [zup_ne]; exact g1.2.1.1) P (cPlan_fr hP2 (fun c a b i => by simp (disch := omega) only [zup_ne])) _ g4 199 (by omega)) rfl (Nat.le_of_ble_eq_true rfl) (by decide) (fun σ4 g5 => ?_)
      have g6 : zfr 4 11 σ1 σ4 := fun c hc i => by (rw [g5.1.1 c (by omega)]; simp (disch := omega) only [zup_ne]; exact g1.1 c (by omega) (by omega) (by omega) i)
      have g6' : ∀ k, σ4 4 k = σ1 4 k := fun k => by (rw [g5.1.1 4 (by omega)]; simp (disch := omega) only [zup_ne]; exact g1.1 4 (by omega) (by omega) (by omega) k)
      have g7 := zTm_rg g5.2.2.1 (i := i) (by omega)
      have g8 : zTm (zFn P (pL P) 0 [(i, (x : Int))]) i = zTm (sRun P (pL P, 0, [(i, (x : Int))], -1) (199 + 1)) i := rfl
      have g7' : 0 ≤ zTm (zFn P (pL P) 0 [(i, (x : Int))]) i ∧ zTm (zFn P (pL P) 0 [(i, (x : Int))]) i ≤ 200 := ⟨g7.1, g7.2.1⟩
      refine z_raload_n h dX5_cryOnceMore_55 rfl ?_
      refine z_getr h dX5_cryOnceMore_56 fX5_12 L4 rfl ?_
      refine z_iload_n h dX5_cryOnceMore_59 rfl ?_
      refine z_cVi1 h dX5_cryOnceMore_60 lX5_37 vX1_timeOf rfl L5 (c_X1_timeOf σ4 i (by omega) (by omega)) rfl (Nat.le_of_ble_eq_true rfl) (by decide) (fun v σ5 g9 => ?_)
      obtain ⟨rfl, rfl⟩ := g9
      rw [g7.2.2.1, ← g8]
      refine z_iload h dX5_cryOnceMore_63 rfl ?_
      refine z_icmp_ge h dX5_cryOnceMore_65 (by omega) (by omega) (fun b65 => ?_) (fun b65 => ?_)
      · refine z_iinc h dX5_cryOnceMore_84 (by decide) rfl (zst1_5 rfl) ?_
        refine z_goto h dX5_cryOnceMore_87 ?_
        rw [show (x : Int) + 1 = ((x + 1 : Nat) : Int) by omega]
        by_cases z : zTm (zFn P (pL P) 0 [(i, (x : Int))]) i < (zAg P i x).2
        · first
            | (exfalso; omega)
            | (have := ih (x + 1) (zup σ6 4 3 x) (by omega) (zfr_up (zfr_tr h2 g6) (by omega) (by omega))
               rw [e, if_pos z] at this
               exact this (fun _ => zup_eq _ _ _ _) (by dsimp only; omega) (by dsimp only; omega) h6 h7)
        · first
            | (exfalso; omega)
            | (have := ih (x + 1) σ5 (by omega) (zfr_tr h2 g6)
               rw [e, if_neg z] at this
               exact this (fun q => by rw [g6']; exact h3 q) h4 h5 h6 h7)
      · refine z_raload_n h dX5_cryOnceMore_68 rfl ?_
        refine z_getr h dX5_cryOnceMore_69 fX5_12 L4 rfl ?_
        refine z_iload_n h dX5_cryOnceMore_72 rfl ?_
        refine z_cVi1 h dX5_cryOnceMore_73 lX5_37 vX1_timeOf rfl L5 (c_X1_timeOf σ5 i (by omega) (by omega)) rfl (Nat.le_of_ble_eq_true rfl) (by decide) (fun v σ6 g9 => ?_)
        obtain ⟨rfl, rfl⟩ := g9
        rw [g7.2.2.1, ← g8]
        refine z_ist1 h dX5_cryOnceMore_76 (by decide) (zst1_4 rfl) ?_
        refine z_raload_n h dX5_cryOnceMore_78 rfl ?_
        refine z_iload h dX5_cryOnceMore_79 rfl ?_
        refine y_put 3 h dX5_cryOnceMore_81 fX5_75 pX5_3 L4 rfl rfl ?_
        refine z_iinc h dX5_cryOnceMore_84 (by decide) rfl (zst1_5 rfl) ?_
        refine z_goto h dX5_cryOnceMore_87 ?_
        rw [show (x : Int) + 1 = ((x + 1 : Nat) : Int) by omega]
        by_cases z : zTm (zFn P (pL P) 0 [(i, (x : Int))]) i < (zAg P i x).2
        · first
            | (exfalso; omega)
            | (have := ih (x + 1) (zup σ6 4 3 x) (by omega) (zfr_up (zfr_tr h2 g6) (by omega) (by omega))
               rw [e, if_pos z] at this
               exact this (fun _ => zup_eq _ _ _ _) (by dsimp only; omega) (by dsimp only; omega) h6 h7)
        · first
            | (exfalso; omega)
            | (have := ih (x + 1) σ5 (by omega) (zfr_tr h2 g6)
               rw [e, if_neg z] at this
               exact this (fun q => by rw [g6']; exact h3 q) h4 h5 h6 h7)
  refine z_raload_n h dX5_cryOnceMore_0 rfl ?_
  refine z_raload_n h dX5_cryOnceMore_1 rfl ?_
  refine z_iload_n h dX5_cryOnceMore_2 rfl ?_
  refine z_iconst h dX5_cryOnceMore_3 ?_
  refine z_cVi3 h dX5_cryOnceMore_4 lX5_52 vX5_timeWithout rfl L4 (c_X5_timeWithout σ π hp P hP i hi 0 (by omega)) rfl (Nat.le_of_ble_eq_true rfl) (by decide) (fun v σ1 h1 => ?_)
  obtain ⟨rfl, h2, h3⟩ := h1
  refine z_ist1_n h dX5_cryOnceMore_7 (by decide) (zst1_3 rfl) ?_
  refine z_iload_n h dX5_cryOnceMore_8 rfl ?_
  refine z_ist1 h dX5_cryOnceMore_9 (by decide) (zst1_4 rfl) ?_
  refine z_raload_n h dX5_cryOnceMore_11 rfl ?_
  refine z_iconst h dX5_cryOnceMore_12 ?_
  refine y_put 3 h dX5_cryOnceMore_13 fX5_75 pX5_3 L4 rfl rfl ?_
  refine z_iconst h dX5_cryOnceMore_16 ?_
  refine z_ist1 h dX5_cryOnceMore_17 (by decide) (zst1_5 rfl) ?_
  exact L 100 0 _ (by omega) (zfr_up (zfr_mono h3 (by omega) (by omega)) (by omega) (by omega)) (fun z => by simp [zAg] at z) h2.1 h2.2 h2.1 h2.2
def zTI (P : zP) (i j : Int) (k : Nat) : Int := zTm (zFn P (pL P) 0 [(i, ((k / 12 : Nat) : Int)), (j, ((k % 12 : Nat) : Int))]) i
def zTJ (P : zP) (i j : Int) (k : Nat) : Int := zTm (zFn P (pL P) 0 [(i, ((k / 12 : Nat) : Int)), (j, ((k % 12 : Nat) : Int))]) j
/-- a REST -/
def zRf (P : zP) (i j : Int) (k : Nat) : Nat → Bool
  | 0 => true
  | o + 1 => zRf P i j k o && (decide (zTI P i j k ≤ zTI P i j (12 * o + k % 12)) && decide (zTJ P i j k ≤ zTJ P i j (k / 12 * 12 + o)))
def zRs (P : zP) (i j : Int) (k : Nat) : Bool := zRf P i j k 12
theorem zRf_0 {P : zP} {i j : Int} {k o : Nat} (h : zRf P i j k o = false) : ∀ m, zRf P i j k (o + m) = false
  | 0 => h
  | m + 1 => by
    show (zRf P i j k (o + m) && _) = false
    rw [zRf_0 h m]; rfl
def cTp (σ : zM) (P : zP) (i j : Int) (K : Nat) : Prop := ∀ k : Nat, k < K → (σ 21 k = zTI P i j k ∧ σ 22 k = zTJ P i j k) ∧ 0 ≤ zTI P i j k ∧ zTI P i j k ≤ 200 ∧ 0 ≤ zTJ P i j k ∧ zTJ P i j k ≤ 200
abbrev cTs (σ : zM) (P : zP) (i j : Int) : Prop := cTp σ P i j 144
theorem c_X5_isRest (σ : zM) (P : zP) (i j : Int) (hT : cTs σ P i j) (a b : Nat) (ha : a < 12) (hb : b < 12) : zCi mX5_isRest (fun w => [zr w 4, zi a, zi b]) σ (fun r σ' => r = zb (zRs P i j (12 * a + b)) ∧ σ' = σ) := by
  refine zCi_mk (own := RX5) rfl (by decide +kernel) (fun w => [some (zr w 4), some (zi a), some (zi b), none, none, none]) (fun _ => rfl) (fun _ => Nat.le_of_ble_eq_true rfl) ?_
  intro Γ h hr
  have e1 : (12 * a + b) / 12 = a := by omega
  have e2 : (12 * a + b) % 12 = b := by omega
  have t0 := hT (12 * a + b) (by omega)
  rw [show (((12 * a + b : Nat) : Nat) : Int) = 12 * a + b by omega] at t0
  have L : ∀ (n o : Nat), o + n = 12 → zRf P i j (12 * a + b) o = true → zV Γ σ 28 [some (zr (zw Γ) 4), some (zi a), some (zi b), some (zi (zTI P i j (12 * a + b))), some (zi (zTJ P i j (12 * a + b))), some (zi o)] [] := by
    intro n
    induction n with
    | zero =>
      intro o h1 h2
      refine z_iload h dX5_isRest_28 rfl ?_
      refine z_bipush h dX5_isRest_30 (by decide) ?_
      refine z_icmp_ge h dX5_isRest_32 (by omega) (by omega) (fun b32 => ?_) (fun b32 => by exfalso; omega)
      refine z_iconst h dX5_isRest_76 ?_
      refine z_irZ h hr dX5_isRest_77 (by first | decide | omega | simp_all) ?_
      rw [show o = 12 by omega] at h2
      unfold zRs
      rw [h2]
      exact ⟨rfl, rfl⟩
    | succ n ih =>
      intro o h1 h2
      have t1 := hT (12 * o + b) (by omega)
      have t2 := hT (12 * a + o) (by omega)
      rw [show (((12 * o + b : Nat) : Nat) : Int) = 12 * o + b by omega] at t1
      rw [show (((12 * a + o : Nat) : Nat) : Int) = 12 * a + o by omega] at t2
      have e3 : zRf P i j (12 * a + b) (o + 1) = (zRf P i j (12 * a + b) o && (decide (zTI P i j (12 * a + b) ≤ zTI P i j (12 * o + b)) && decide (zTJ P i j (12 * a + b) ≤ zTJ P i j (12 * a + o)))) := by
        show (zRf P i j (12 * a + b) o && (decide (zTI P i j (12 * a + b) ≤ zTI P i j (12 * o + (12 * a + b) % 12)) && decide (zTJ P i j (12 * a + b) ≤ zTJ P i j ((12 * a + b) / 12 * 12 + o)))) = _
        rw [e1, e2, Nat.mul_comm a 12]
      refine z_iload h dX5_isRest_28 rfl ?_
      refine z_bipush h dX5_isRest_30 (by decide) ?_
      refine z_icmp_ge h dX5_isRest_32 (by omega) (by omega) (fun b32 => by exfalso; omega) (fun b32 => ?_)
      refine z_raload_n h dX5_isRest_35 rfl ?_
      refine z_getr h dX5_isRest_36 fX5_18 L4 rfl ?_
      refine z_bipush h dX5_isRest_39 (by decide) ?_
      refine z_iload h dX5_isRest_41 rfl ?_
      refine z_imul h dX5_isRest_43 ?_
      refine z_iload_n h dX5_isRest_44 rfl ?_
      refine z_iadd h dX5_isRest_45 ?_
      refine z_iald h dX5_isRest_46 L21 (by decide) (by omega) ?_
      refine z_iload_n h dX5_isRest_47 rfl ?_
      refine z_icmp_lt h dX5_isRest_48 (by omega) (by omega) (fun b48 => ?_) (fun b48 => ?_)
      · refine z_iconst h dX5_isRest_68 ?_
        refine z_irZ h hr dX5_isRest_69 (by first | decide | omega | simp_all) ?_
        have : zRf P i j (12 * a + b) (o + 1) = false := by (rw [e3, h2, Bool.true_and]; simp; omega)
        have := zRf_0 this n
        rw [show o + 1 + n = 12 by omega] at this
        unfold zRs
        rw [this]
        exact ⟨rfl, rfl⟩
      · refine z_raload_n h dX5_isRest_51 rfl ?_
        refine z_getr h dX5_isRest_52 fX5_22 L4 rfl ?_
        refine z_bipush h dX5_isRest_55 (by decide) ?_
        refine z_iload_n h dX5_isRest_57 rfl ?_
        refine z_imul h dX5_isRest_58 ?_
        refine z_iload h dX5_isRest_59 rfl ?_
        refine z_iadd h dX5_isRest_61 ?_
        refine z_iald h dX5_isRest_62 L22 (by decide) (by omega) ?_
        refine z_iload h dX5_isRest_63 rfl ?_
        refine z_icmp_ge h dX5_isRest_65 (by omega) (by omega) (fun b65 => ?_) (fun b65 => ?_)
        · refine z_iinc h dX5_isRest_70 (by decide) rfl (zst1_5 rfl) ?_
          refine z_goto h dX5_isRest_73 ?_
          refine ih (o + 1) (by omega) ?_
          rw [e3, h2, decide_eq_true (by omega), decide_eq_true (by omega)]
          rfl
        · refine z_iconst h dX5_isRest_68 ?_
          refine z_irZ h hr dX5_isRest_69 (by first | decide | omega | simp_all) ?_
          have : zRf P i j (12 * a + b) (o + 1) = false := by (rw [e3, h2, Bool.true_and]; simp; omega)
          have := zRf_0 this n
          rw [show o + 1 + n = 12 by omega] at this
          unfold zRs
          rw [this]
          exact ⟨rfl, rfl⟩
  refine z_raload_n h dX5_isRest_0 rfl ?_
  refine z_getr h dX5_isRest_1 fX5_18 L4 rfl ?_
  refine z_bipush h dX5_isRest_4 (by decide) ?_
  refine z_iload_n h dX5_isRest_6 rfl ?_
  refine z_imul h dX5_isRest_7 ?_
  refine z_iload_n h dX5_isRest_8 rfl ?_
  refine z_iadd h dX5_isRest_9 ?_
  refine z_iald h dX5_isRest_10 L21 (by decide) (by omega) ?_
  rw [t0.1.1]
  refine z_ist1_n h dX5_isRest_11 (by decide) (zst1_3 rfl) ?_
  refine z_raload_n h dX5_isRest_12 rfl ?_
  refine z_getr h dX5_isRest_13 fX5_22 L4 rfl ?_
  refine z_bipush h dX5_isRest_16 (by decide) ?_
  refine z_iload_n h dX5_isRest_18 rfl ?_
  refine z_imul h dX5_isRest_19 ?_
  refine z_iload_n h dX5_isRest_20 rfl ?_
  refine z_iadd h dX5_isRest_21 ?_
  refine z_iald h dX5_isRest_22 L22 (by decide) (by omega) ?_
  rw [t0.1.2]
  refine z_ist1 h dX5_isRest_23 (by decide) (zst1_4 rfl) ?_
  refine z_iconst h dX5_isRest_25 ?_
  refine z_ist1 h dX5_isRest_26 (by decide) (zst1_5 rfl) ?_
  exact L 12 0 (by omega) rfl
theorem c_X5_play (σ : zM) (π : Nat) (hp : zPl π) (P : zP) (hP : cPlan σ π P) (i j : Int) (hi : 0 ≤ i ∧ i < P.1.length) (hj : 0 ≤ j ∧ j < P.1.length) : zCv mX5_play (fun w => [zr w 4, zr w π, zi i, zi j]) σ (fun σ' => zfr 4 22 σ σ' ∧ σ' 4 5 = (nCnt (zRs P i j) 144).1 ∧ (0 < (nCnt (zRs P i j) 144).1 → ∃ f : Nat, f < 144 ∧ (nCnt (zRs P i j) 144).2 = f ∧ σ' 4 6 = ((f / 12 : Nat) : Int) ∧ σ' 4 7 = ((f % 12 : Nat) : Int))) := by
  refine zCv_mk (own := RX5) rfl (by decide +kernel) (fun w => [some (zr w 4), some (zr w π), some (zi i), some (zi j), none, none]) (fun _ => rfl) (fun _ => Nat.le_of_ble_eq_true rfl) ?_
  intro Γ h hr
  have hpi : 39 ≤ π := by unfold zPl at hp; omega
  have np10 := hP.2.2.2.2.2.1
  -- the rests
  have S122 : ∀ (n a : Nat) (σ1 : zM) (l5 : Option Value), a + n = 12 → zfr 4 22 σ σ1 → cTs σ1 P i j → σ1 4 5 = (nCnt (zRs P i j) (12 * a)).1 → (0 < (nCnt (zRs P i j) (12 * a)).1 → ∃ f : Nat, f < 144 ∧ (nCnt (zRs P i j) (12 * a)).2 = f ∧ σ1 4 6 = ((f / 12 : Nat) : Int) ∧ σ1 4 7 = ((f % 12 : Nat) : Int)) → zV Γ σ1 122 [some (zr (zw Γ) 4), some (zr (zw Γ) π), some (zi i), some (zi j), some (zi a), l5] [] := by
    intro n
    induction n with
    | zero =>
      intro a σ1 l5 h1 h2 h3 h4 h5
      have ea : a = 12 := by omega
      subst ea
      refine z_iload h dX5_play_122 rfl ?_
      refine z_bipush h dX5_play_124 (by decide) ?_
      refine z_icmp_ge h dX5_play_126 (by omega) (by omega) (fun b126 => ?_) (fun b126 => by exfalso; omega)
      refine z_irV h hr dX5_play_191 ?_
      exact ⟨h2, h4, h5⟩
    | succ n ih =>
      intro a σ1 l5 h1 h2 h3 h4 h5
      have S132 : ∀ (m b : Nat) (σ2 : zM), b + m = 12 → zfr 4 22 σ σ2 → cTs σ2 P i j → σ2 4 5 = (nCnt (zRs P i j) (12 * a + b)).1 → (0 < (nCnt (zRs P i j) (12 * a + b)).1 → ∃ f : Nat, f < 144 ∧ (nCnt (zRs P i j) (12 * a + b)).2 = f ∧ σ2 4 6 = ((f / 12 : Nat) : Int) ∧ σ2 4 7 = ((f % 12 : Nat) : Int)) → zV Γ σ2 132 [some (zr (zw Γ) 4), some (zr (zw Γ) π), some (zi i), some (zi j), some (zi a), some (zi b)] [] := by
        intro m
        induction m with
        | zero =>
          intro b σ2 g1 g2 g3 g4 g5
          have eb : b = 12 := by omega
          subst eb
          refine z_iload h dX5_play_132 rfl ?_
          refine z_bipush h dX5_play_134 (by decide) ?_
          refine z_icmp_ge h dX5_play_136 (by omega) (by omega) (fun b136 => ?_) (fun b136 => by exfalso; omega)
          refine z_iinc h dX5_play_185 (by decide) rfl (zst1_4 rfl) ?_
          refine z_goto h dX5_play_188 ?_
          rw [show (a : Int) + 1 = ((a + 1 : Nat) : Int) by omega]
          rw [show 12 * a + 12 = 12 * (a + 1) by omega] at g4 g5
          exact ih (a + 1) σ2 _ (by omega) g2 g3 g4 g5
        | succ m ih2 =>
          intro b σ2 g1 g2 g3 g4 g5
          have rg := nCnt_rg (zRs P i j) (12 * a + b)
          have hc : nCnt (zRs P i j) (12 * a + b + 1) = if zRs P i j (12 * a + b) then ((nCnt (zRs P i j) (12 * a + b)).1 + 1, if (nCnt (zRs P i j) (12 * a + b)).1 = 0 then ((12 * a + b : Nat) : Int) else (nCnt (zRs P i j) (12 * a + b)).2) else nCnt (zRs P i j) (12 * a + b) := rfl
          cases hb : zRs P i j (12 * a + b)
          · rw [hb] at hc
            have hc : nCnt (zRs P i j) (12 * a + b + 1) = nCnt (zRs P i j) (12 * a + b) := hc
            refine z_iload h dX5_play_132 rfl ?_
            refine z_bipush h dX5_play_134 (by decide) ?_
            refine z_icmp_ge h dX5_play_136 (by omega) (by omega) (fun b136 => by exfalso; omega) (fun b136 => ?_)
            refine z_raload_n h dX5_play_139 rfl ?_
            refine z_iload h dX5_play_140 rfl ?_
            refine z_iload h dX5_play_142 rfl ?_
            refine z_cVi2 h dX5_play_144 lX5_88 vX5_isRest rfl L4 (c_X5_isRest σ2 P i j g3 a b (by omega) (by omega)) rfl (Nat.le_of_ble_eq_true rfl) (by decide) (fun v σ3 g6 => ?_)
            obtain ⟨rfl, rfl⟩ := g6
            rw [hb]
            refine z_if_eq h dX5_play_147 (by decide) (fun b147 => ?_) (fun b147 => by exfalso; exact b147 rfl)
            refine z_iinc h dX5_play_179 (by decide) rfl (zst1_5 rfl) ?_
            refine z_goto h dX5_play_182 ?_
            rw [show (b : Int) + 1 = ((b + 1 : Nat) : Int) by omega]
            refine ih2 (b + 1) σ3 (by omega) g2 g3 ?_ ?_
            · show σ3 4 5 = (nCnt (zRs P i j) (12 * a + b + 1)).1
              rw [hc]; exact g4
            · show 0 < (nCnt (zRs P i j) (12 * a + b + 1)).1 → ∃ f : Nat, f < 144 ∧ (nCnt (zRs P i j) (12 * a + b + 1)).2 = f ∧ σ3 4 6 = ((f / 12 : Nat) : Int) ∧ σ3 4 7 = ((f % 12 : Nat) : Int)
              rw [hc]; exact g5
          · rw [hb] at hc
            have hc : nCnt (zRs P i j) (12 * a + b + 1) = ((nCnt (zRs P i j) (12 * a + b)).1 + 1, if (nCnt (zRs P i j) (12 * a + b)).1 = 0 then ((12 * a + b : Nat) : Int) else (nCnt (zRs P i j) (12 * a + b)).2) := hc
            refine z_iload h dX5_play_132 rfl ?_
            refine z_bipush h dX5_play_134 (by decide) ?_
            refine z_icmp_ge h dX5_play_136 (by omega) (by omega) (fun b136 => by exfalso; omega) (fun b136 => ?_)
            refine z_raload_n h dX5_play_139 rfl ?_
            refine z_iload h dX5_play_140 rfl ?_
            refine z_iload h dX5_play_142 rfl ?_
            refine z_cVi2 h dX5_play_144 lX5_88 vX5_isRest rfl L4 (c_X5_isRest σ2 P i j g3 a b (by omega) (by omega)) rfl (Nat.le_of_ble_eq_true rfl) (by decide) (fun v σ3 g6 => ?_)
            obtain ⟨rfl, rfl⟩ := g6
            rw [hb]
            refine z_if_eq h dX5_play_147 (by decide) (fun b147 => by exfalso; exact absurd b147 (by decide)) (fun b147 => ?_)
            refine z_raload_n h dX5_play_150 rfl ?_
            refine y_get 5 h dX5_play_151 fX5_85 L4 rfl rfl ?_
            refine z_if_ne h dX5_play_154 (by omega) (fun b154 => ?_) (fun b154 => ?_)
            · refine z_raload_n h dX5_play_169 rfl ?_
              refine z_dup h dX5_play_170 rfl ?_
              refine y_get 5 h dX5_play_171 fX5_85 L4 rfl rfl ?_
              refine z_iconst h dX5_play_174 ?_
              refine z_iadd h dX5_play_175 ?_
              refine y_put 5 h dX5_play_176 fX5_85 pX5_5 L4 rfl rfl ?_
              refine z_iinc h dX5_play_179 (by decide) rfl (zst1_5 rfl) ?_
              refine z_goto h dX5_play_182 ?_
              rw [show (b : Int) + 1 = ((b + 1 : Nat) : Int) by omega]
              refine ih2 (b + 1) _ (by omega) (fun c hcc q => ?_) (fun k hk => ?_) ?_ ?_
              · simp (disch := omega) only [zup_ne]; exact g2 c hcc q
              · simp (disch := omega) only [zup_ne]; exact g3 k hk
              · show _ = (nCnt (zRs P i j) (12 * a + b + 1)).1
                rw [hc]
                simp (disch := omega) only [zup_eq, zup_nei]
                rw [g4]
              · show 0 < (nCnt (zRs P i j) (12 * a + b + 1)).1 → ∃ f : Nat, f < 144 ∧ (nCnt (zRs P i j) (12 * a + b + 1)).2 = f ∧ _ = ((f / 12 : Nat) : Int) ∧ _ = ((f % 12 : Nat) : Int)
                intro _
                rw [hc]
                simp (disch := omega) only [zup_eq, zup_nei]
                by_cases z : (nCnt (zRs P i j) (12 * a + b)).1 = 0
                · first
                    | (exfalso; omega)
                    | (rw [if_pos z]; exact ⟨12 * a + b, by omega, rfl, by omega, by omega⟩)
                · first
                    | (exfalso; omega)
                    | (rw [if_neg z]; exact g5 (by omega))
            · refine z_raload_n h dX5_play_157 rfl ?_
              refine z_iload h dX5_play_158 rfl ?_
              refine y_put 6 h dX5_play_160 fX5_92 pX5_6 L4 rfl rfl ?_
              refine z_raload_n h dX5_play_163 rfl ?_
              refine z_iload h dX5_play_164 rfl ?_
              refine y_put 7 h dX5_play_166 fX5_95 pX5_7 L4 rfl rfl ?_
              refine z_raload_n h dX5_play_169 rfl ?_
              refine z_dup h dX5_play_170 rfl ?_
              refine y_get 5 h dX5_play_171 fX5_85 L4 rfl rfl ?_
              try simp (disch := omega) only [zup_eq, zup_ne, zup_nei]
              refine z_iconst h dX5_play_174 ?_
              refine z_iadd h dX5_play_175 ?_
              refine y_put 5 h dX5_play_176 fX5_85 pX5_5 L4 rfl rfl ?_
              refine z_iinc h dX5_play_179 (by decide) rfl (zst1_5 rfl) ?_
              refine z_goto h dX5_play_182 ?_
              rw [show (b : Int) + 1 = ((b + 1 : Nat) : Int) by omega]
              refine ih2 (b + 1) _ (by omega) (fun c hcc q => ?_) (fun k hk => ?_) ?_ ?_
              · simp (disch := omega) only [zup_ne]; exact g2 c hcc q
              · simp (disch := omega) only [zup_ne]; exact g3 k hk
              · show _ = (nCnt (zRs P i j) (12 * a + b + 1)).1
                rw [hc]
                simp (disch := omega) only [zup_eq, zup_nei]
                rw [g4]
              · show 0 < (nCnt (zRs P i j) (12 * a + b + 1)).1 → ∃ f : Nat, f < 144 ∧ (nCnt (zRs P i j) (12 * a + b + 1)).2 = f ∧ _ = ((f / 12 : Nat) : Int) ∧ _ = ((f % 12 : Nat) : Int)
                intro _
                rw [hc]
                simp (disch := omega) only [zup_eq, zup_nei]
                by_cases z : (nCnt (zRs P i j) (12 * a + b)).1 = 0
                · first
                    | (exfalso; omega)
                    | (rw [if_pos z]; exact ⟨12 * a + b, by omega, rfl, by omega, by omega⟩)
                · first
                    | (exfalso; omega)
                    | (rw [if_neg z]; exact g5 (by omega))
      refine z_iload h dX5_play_122 rfl ?_
      refine z_bipush h dX5_play_124 (by decide) ?_
      refine z_icmp_ge h dX5_play_126 (by omega) (by omega) (fun b126 => by exfalso; omega) (fun b126 => ?_)
      refine z_iconst h dX5_play_129 ?_
      refine z_ist1 h dX5_play_130 (by decide) (zst1_5 rfl) ?_
      exact S132 12 0 σ1 (by omega) h2 h3 h4 h5
  have P3 : ∀ (n a : Nat) (σ1 : zM) (l5 : Option Value), a + n = 12 → zfr 4 22 σ σ1 → cTp σ1 P i j (12 * a) → zV Γ σ1 3 [some (zr (zw Γ) 4), some (zr (zw Γ) π), some (zi i), some (zi j), some (zi a), l5] [] := by
    intro n
    induction n with
    | zero =>
      intro a σ1 l5 h1 h2 h3
      have ea : a = 12 := by omega
      subst ea
      refine z_iload h dX5_play_3 rfl ?_
      refine z_bipush h dX5_play_5 (by decide) ?_
      refine z_icmp_ge h dX5_play_7 (by omega) (by omega) (fun b7 => ?_) (fun b7 => by exfalso; omega)
      refine z_raload_n h dX5_play_114 rfl ?_
      refine z_iconst h dX5_play_115 ?_
      refine y_put 5 h dX5_play_116 fX5_85 pX5_5 L4 rfl rfl ?_
      refine z_iconst h dX5_play_119 ?_
      refine z_ist1 h dX5_play_120 (by decide) (zst1_4 rfl) ?_
      refine S122 12 0 _ _ (by omega) (zfr_up h2 (by omega) (by omega)) (fun k hk => ?_) ?_ ?_
      · simp (disch := omega) only [zup_ne]; exact h3 k hk
      · rw [zup_eq]; rfl
      · intro z; simp [nCnt] at z
    | succ n ih =>
      intro a σ1 l5 h1 h2 h3
      have P13 : ∀ (m b : Nat) (σ2 : zM), b + m = 12 → zfr 4 22 σ σ2 → cTp σ2 P i j (12 * a + b) → zV Γ σ2 13 [some (zr (zw Γ) 4), some (zr (zw Γ) π), some (zi i), some (zi j), some (zi a), some (zi b)] [] := by
        intro m
        induction m with
        | zero =>
          intro b σ2 g1 g2 g3
          have eb : b = 12 := by omega
          subst eb
          refine z_iload h dX5_play_13 rfl ?_
          refine z_bipush h dX5_play_15 (by decide) ?_
          refine z_icmp_ge h dX5_play_17 (by omega) (by omega) (fun b17 => ?_) (fun b17 => by exfalso; omega)
          refine z_iinc h dX5_play_108 (by decide) rfl (zst1_4 rfl) ?_
          refine z_goto h dX5_play_111 ?_
          rw [show (a : Int) + 1 = ((a + 1 : Nat) : Int) by omega]
          rw [show 12 * a + 12 = 12 * (a + 1) by omega] at g3
          exact ih (a + 1) σ2 _ (by omega) g2 g3
        | succ m ih2 =>
          intro b σ2 g1 g2 g3
          have hP2 := cPlan_fr hP (σ' := σ2) (fun c a b i => g2 c (by omega) i)
          have e1 : (12 * a + b) / 12 = a := by omega
          have e2 : (12 * a + b) % 12 = b := by omega
          refine z_iload h dX5_play_13 rfl ?_
          refine z_bipush h dX5_play_15 (by decide) ?_
          refine z_icmp_ge h dX5_play_17 (by omega) (by omega) (fun b17 => by exfalso; omega) (fun b17 => ?_)
          refine z_raload_n h dX5_play_20 rfl ?_
          refine z_getr h dX5_play_21 fX5_12 L4 rfl ?_
          refine z_raload_n h dX5_play_24 rfl ?_
          refine z_cVv1 h dX5_play_25 lX5_25 vX1_asTold rfl L5 (c_X1_asTold σ2 π hp) rfl (Nat.le_of_ble_eq_true rfl) (by decide) (fun σ3 g4 => ?_)
          have g5 := md_as hP2 g4.2
          have hP3 := cPlan_fr hP2 (σ' := σ3) (fun c a b i => g4.1 c (by omega) (by omega) (by omega) i)
          refine z_raload_n h dX5_play_28 rfl ?_
          refine z_getr h dX5_play_29 fX5_12 L4 rfl ?_
          refine z_iconst h dX5_play_32 ?_
          refine z_iload_n h dX5_play_33 rfl ?_
          refine z_iload h dX5_play_34 rfl ?_
          refine z_cVv3 h dX5_play_36 lX5_78 vX1_addExtra rfl L5 (c_X1_addExtra σ3 π hp g4.2.1.1 P hP3 0 i a (Or.inl rfl) hi) rfl (Nat.le_of_ble_eq_true rfl) (by decide) (fun σ4 g6 => ?_)
          subst g6
          have hP4 := cPlan_fr hP3 (σ' := zup (zup σ3 10 0 i) 11 0 a) (fun c a b i => by simp (disch := omega) only [zup_ne])
          refine z_raload_n h dX5_play_39 rfl ?_
          refine z_getr h dX5_play_40 fX5_12 L4 rfl ?_
          refine z_iconst h dX5_play_43 ?_
          refine z_iload_n h dX5_play_44 rfl ?_
          refine z_iload h dX5_play_45 rfl ?_
          refine z_cVv3 h dX5_play_47 lX5_78 vX1_addExtra rfl L5 (c_X1_addExtra _ π hp (by simp (disch := omega) only [zup_ne]; exact g4.2.1.1) P hP4 1 j b (Or.inr rfl) hj) rfl (Nat.le_of_ble_eq_true rfl) (by decide) (fun σ5 g7 => ?_)
          subst g7
          have g8 := md_ex2 (i := i) (x := a) (j := j) (y := b) g5 (by omega) (by omega) (by omega) (by omega)
          refine z_raload_n h dX5_play_50 rfl ?_
          refine z_getr h dX5_play_51 fX5_12 L4 rfl ?_
          refine z_sipush h dX5_play_54 (by decide) ?_
          refine z_cVv1 h dX5_play_57 lX5_33 vX1_runTo rfl L5 (c_X1_runTo _ π hp (by simp (disch := omega) only [zup_ne]; exact g4.2.1.1) P (cPlan_fr hP4 (fun c a b i => by simp (disch := omega) only [zup_ne])) _ g8 199 (by omega)) rfl (Nat.le_of_ble_eq_true rfl) (by decide) (fun σ6 g9 => ?_)
          have g10 : ∀ c, (c < 5 ∨ 11 < c) → ∀ q, σ6 c q = σ2 c q := fun c hc q => by (rw [g9.1.1 c (by omega)]; simp (disch := omega) only [zup_ne]; exact g4.1 c (by omega) (by omega) (by omega) q)
          have tI := zTm_rg g9.2.2.1 (i := i) (by omega)
          have tJ := zTm_rg g9.2.2.1 (i := j) (by omega)
          have sI : zTI P i j (12 * a + b) = zTm (sRun P (pL P, 0, [(i, (a : Int)), (j, (b : Int))], -1) 200) i := by (unfold zTI; rw [e1, e2]; rfl)
          have sJ : zTJ P i j (12 * a + b) = zTm (sRun P (pL P, 0, [(i, (a : Int)), (j, (b : Int))], -1) 200) j := by (unfold zTJ; rw [e1, e2]; rfl)
          refine z_raload_n h dX5_play_60 rfl ?_
          refine z_getr h dX5_play_61 fX5_18 L4 rfl ?_
          refine z_bipush h dX5_play_64 (by decide) ?_
          refine z_iload h dX5_play_66 rfl ?_
          refine z_imul h dX5_play_68 ?_
          refine z_iload h dX5_play_69 rfl ?_
          refine z_iadd h dX5_play_71 ?_
          refine z_raload_n h dX5_play_72 rfl ?_
          refine z_getr h dX5_play_73 fX5_12 L4 rfl ?_
          refine z_iload_n h dX5_play_76 rfl ?_
          refine z_cVi1 h dX5_play_77 lX5_37 vX1_timeOf rfl L5 (c_X1_timeOf σ6 i (by omega) (by omega)) rfl (Nat.le_of_ble_eq_true rfl) (by decide) (fun v σ7 g11 => ?_)
          obtain ⟨rfl, rfl⟩ := g11
          rw [tI.2.2.1, ← sI]
          refine z_iast h dX5_play_80 L21 (by decide) (by omega) ?_
          refine z_raload_n h dX5_play_81 rfl ?_
          refine z_getr h dX5_play_82 fX5_22 L4 rfl ?_
          refine z_bipush h dX5_play_85 (by decide) ?_
          refine z_iload h dX5_play_87 rfl ?_
          refine z_imul h dX5_play_89 ?_
          refine z_iload h dX5_play_90 rfl ?_
          refine z_iadd h dX5_play_92 ?_
          refine z_raload_n h dX5_play_93 rfl ?_
          refine z_getr h dX5_play_94 fX5_12 L4 rfl ?_
          refine z_iload_n h dX5_play_97 rfl ?_
          refine z_cVi1 h dX5_play_98 lX5_37 vX1_timeOf rfl L5 (c_X1_timeOf _ j (by omega) (by simp (disch := omega) only [zup_ne]; omega)) rfl (Nat.le_of_ble_eq_true rfl) (by decide) (fun v2 σ8 g12 => ?_)
          obtain ⟨rfl, rfl⟩ := g12
          simp (disch := omega) only [zup_ne]
          rw [tJ.2.2.1, ← sJ]
          refine z_iast h dX5_play_101 L22 (by decide) (by omega) ?_
          refine z_iinc h dX5_play_102 (by decide) rfl (zst1_5 rfl) ?_
          refine z_goto h dX5_play_105 ?_
          rw [show (b : Int) + 1 = ((b + 1 : Nat) : Int) by omega]
          refine ih2 (b + 1) _ (by omega) (fun c hcc q => ?_) (fun k hk => ?_)
          · simp (disch := omega) only [zup_ne]
            exact (g10 c (by omega) q).trans (g2 c hcc q)
          · by_cases ek : k = 12 * a + b
            · subst ek
              rw [zup_eqi (by omega), zup_ne (by omega), zup_eqi (by omega)]
              refine ⟨⟨rfl, rfl⟩, ?_⟩
              rw [sI, sJ]
              exact ⟨tI.1, tI.2.1, tJ.1, tJ.2.1⟩
            · simp (disch := omega) only [zup_ne, zup_nei]
              rw [g10 21 (by omega), g10 22 (by omega)]
              exact g3 k (by omega)
      refine z_iload h dX5_play_3 rfl ?_
      refine z_bipush h dX5_play_5 (by decide) ?_
      refine z_icmp_ge h dX5_play_7 (by omega) (by omega) (fun b7 => by exfalso; omega) (fun b7 => ?_)
      refine z_iconst h dX5_play_10 ?_
      refine z_ist1 h dX5_play_11 (by decide) (zst1_5 rfl) ?_
      exact P13 12 0 σ1 (by omega) h2 h3
  refine z_iconst h dX5_play_0 ?_
  refine z_ist1 h dX5_play_1 (by decide) (zst1_4 rfl) ?_
  exact P3 12 0 σ none (by omega) zfr_rf (fun k hk => by omega)
def zU (P : zP) (l : Int) : Int := uC P (zFn P l 0 []).2.1 (zFn P l 0 []).2.2.1
theorem uC_rg (P : zP) (h : P.1.length ≤ 10) (how whn : Int → Int) : 0 ≤ uC P how whn ∧ uC P how whn ≤ 100 := by
  have h1 : ∀ b : Nat, b ≤ 10 → 0 ≤ zsum (fun a => uB how whn (zo P b) (zo P a)) b ∧ zsum (fun a => uB how whn (zo P b) (zo P a)) b ≤ 10 := by
    intro b hb
    have := zsum_rg (f := fun a => uB how whn (zo P b) (zo P a)) (m := 1) (by omega) (fun k => uB_rg how whn _ _) b
    omega
  have h2 : ∀ n : Nat, n ≤ 10 → 0 ≤ zsum (fun b => zsum (fun a => uB how whn (zo P b) (zo P a)) b) n ∧ zsum (fun b => zsum (fun a => uB how whn (zo P b) (zo P a)) b) n ≤ n * 10 := by
    intro n
    induction n with
    | zero => intro _; simp [zsum]
    | succ n ih =>
      intro hn
      have h3 := ih (by omega)
      have h4 := h1 n (by omega)
      unfold zsum
      omega
  have := h2 P.1.length h
  unfold uC
  omega
theorem c_X5_unfairBy (σ : zM) (π : Nat) (hp : zPl π) (P : zP) (hP : cPlan σ π P) (l : Int) (hl : 0 ≤ l ∧ l ≤ 3) : zCi mX5_unfairBy (fun w => [zr w 4, zr w π, zi l]) σ (fun r σ' => r = zU P l ∧ (0 ≤ r ∧ r ≤ 100) ∧ zfr 5 11 σ σ') := by
  refine zCi_mk (own := RX5) rfl (by decide +kernel) (fun w => [some (zr w 4), some (zr w π), some (zi l)]) (fun _ => rfl) (fun _ => Nat.le_of_ble_eq_true rfl) ?_
  intro Γ h hr
  have hpi : 39 ≤ π := by unfold zPl at hp; omega
  have np10 := hP.2.2.2.2.2.1
  refine z_raload_n h dX5_unfairBy_0 rfl ?_
  refine z_getr h dX5_unfairBy_1 fX5_12 L4 rfl ?_
  refine z_raload_n h dX5_unfairBy_4 rfl ?_
  refine z_cVv1 h dX5_unfairBy_5 lX5_25 vX1_asTold rfl L5 (c_X1_asTold σ π hp) rfl (Nat.le_of_ble_eq_true rfl) (by decide) (fun σ1 h1 => ?_)
  have h2 := md_as hP h1.2
  have h3 := md_law h2 l hl
  have hP1 := cPlan_fr hP (σ' := zup σ1 5 7 l) (fun c a b i => by rw [zup_ne (by omega)]; exact h1.1 c (by omega) (by omega) (by omega) i)
  refine z_raload_n h dX5_unfairBy_8 rfl ?_
  refine z_getr h dX5_unfairBy_9 fX5_12 L4 rfl ?_
  refine z_iload_n h dX5_unfairBy_12 rfl ?_
  refine y_put 7 h dX5_unfairBy_13 fX5_98 pX1_7 L5 rfl rfl ?_
  refine z_raload_n h dX5_unfairBy_16 rfl ?_
  refine z_getr h dX5_unfairBy_17 fX5_12 L4 rfl ?_
  refine z_sipush h dX5_unfairBy_20 (by decide) ?_
  refine z_cVv1 h dX5_unfairBy_23 lX5_33 vX1_runTo rfl L5 (c_X1_runTo (zup σ1 5 7 l) π hp (by rw [zup_nei (by omega)]; exact h1.2.1.1) P hP1 _ h3 199 (by omega)) rfl (Nat.le_of_ble_eq_true rfl) (by decide) (fun σ2 h4 => ?_)
  have h5 : zfr 5 11 σ σ2 := fun c hc i => ((h4.1.1 c (by omega) i).trans (zup_ne (by omega))).trans (h1.1 c (by omega) (by omega) (by omega) i)
  refine z_raload_n h dX5_unfairBy_26 rfl ?_
  refine z_getr h dX5_unfairBy_27 fX5_12 L4 rfl ?_
  refine z_cVi0 h dX5_unfairBy_30 lX5_101 vX1_unfair rfl L5 (c_X1_unfair σ2 π hp ((h4.1.2 6 (by omega)).trans (by rw [zup_nei (by omega)]; exact h1.2.1.1)) P (cPlan_fr hP1 (fun c a b i => h4.1.1 c (by omega) i)) _ _ h4.2.2.1) rfl (Nat.le_of_ble_eq_true rfl) (by decide) (fun v σ3 h7 => ?_)
  obtain ⟨rfl, rfl⟩ := h7
  refine z_irI h hr dX5_unfairBy_33 ?_
  exact ⟨rfl, uC_rg P np10 _ _, h5⟩
/-- the law by which it is least, the lowest: of the first n -/
def zBl (P : zP) : Nat → Int × Int
  | 0 => (0, zU P 0)
  | n + 1 => if zU P ((n + 1 : Nat) : Int) < (zBl P n).2 then (((n + 1 : Nat) : Int), zU P ((n + 1 : Nat) : Int)) else zBl P n
theorem c_X5_bestLaw (σ : zM) (π : Nat) (hp : zPl π) (P : zP) (hP : cPlan σ π P) : zCi mX5_bestLaw (fun w => [zr w 4, zr w π]) σ (fun r σ' => r = (zBl P 3).1 ∧ (0 ≤ r ∧ r ≤ 3) ∧ zfr 5 11 σ σ') := by
  refine zCi_mk (own := RX5) rfl (by decide +kernel) (fun w => [some (zr w 4), some (zr w π), none, none, none, none]) (fun _ => rfl) (fun _ => Nat.le_of_ble_eq_true rfl) ?_
  intro Γ h hr
  have hpi : 39 ≤ π := by unfold zPl at hp; omega
  have L : ∀ (n k : Nat) (σ1 : zM) (l5 : Option Value), k + n = 3 → zfr 5 11 σ σ1 → 0 ≤ (zBl P k).1 ∧ (zBl P k).1 ≤ k → 0 ≤ (zBl P k).2 ∧ (zBl P k).2 ≤ 100 → zV Γ σ1 12 [some (zr (zw Γ) 4), some (zr (zw Γ) π), some (zi (zBl P k).1), some (zi (zBl P k).2), some (zi ((k + 1 : Nat) : Int)), l5] [] := by
    intro n
    induction n with
    | zero =>
      intro k σ1 l5 h1 h2 h3 h4
      have ek : k = 3 := by omega
      subst ek
      refine z_iload h dX5_bestLaw_12 rfl ?_
      refine z_iconst h dX5_bestLaw_14 ?_
      refine z_icmp_gt h dX5_bestLaw_15 (by omega) (by omega) (fun b15 => ?_) (fun b15 => by exfalso; omega)
      refine z_iload_n h dX5_bestLaw_45 rfl ?_
      refine z_irI h hr dX5_bestLaw_46 ?_
      exact ⟨rfl, h3, h2⟩
    | succ n ih =>
      intro k σ1 l5 h1 h2 h3 h4
      have hP1 := cPlan_fr hP (σ' := σ1) (fun c a b i => h2 c (by omega) i)
      have e : zBl P (k + 1) = if zU P ((k + 1 : Nat) : Int) < (zBl P k).2 then (((k + 1 : Nat) : Int), zU P ((k + 1 : Nat) : Int)) else zBl P k := rfl
      refine z_iload h dX5_bestLaw_12 rfl ?_
      refine z_iconst h dX5_bestLaw_14 ?_
      refine z_icmp_gt h dX5_bestLaw_15 (by omega) (by omega) (fun b15 => by exfalso; omega) (fun b15 => ?_)
      refine z_raload_n h dX5_bestLaw_18 rfl ?_
      refine z_raload_n h dX5_bestLaw_19 rfl ?_
      refine z_iload h dX5_bestLaw_20 rfl ?_
      refine z_cVi2 h dX5_bestLaw_22 lX5_105 vX5_unfairBy rfl L4 (c_X5_unfairBy σ1 π hp P hP1 ((k + 1 : Nat) : Int) (by omega)) rfl (Nat.le_of_ble_eq_true rfl) (by decide) (fun v σ2 g1 => ?_)
      obtain ⟨rfl, g2, g3⟩ := g1
      refine z_ist1 h dX5_bestLaw_25 (by decide) (zst1_5 rfl) ?_
      refine z_iload h dX5_bestLaw_27 rfl ?_
      refine z_iload_n h dX5_bestLaw_29 rfl ?_
      refine z_icmp_ge h dX5_bestLaw_30 (by omega) (by omega) (fun b30 => ?_) (fun b30 => ?_)
      · refine z_iinc h dX5_bestLaw_39 (by decide) rfl (zst1_4 rfl) ?_
        refine z_goto h dX5_bestLaw_42 ?_
        have := ih (k + 1) σ2 (some (zi (zU P ((k + 1 : Nat) : Int)))) (by omega) (zfr_tr h2 g3)
        by_cases z : zU P ((k + 1 : Nat) : Int) < (zBl P k).2
        · rw [e, if_pos z] at this
          first | exact this (by dsimp only; omega) (by dsimp only; omega) | (exfalso; omega)
        · rw [e, if_neg z] at this
          first | exact this (by omega) (by omega) | (exfalso; omega)
      · refine z_iload h dX5_bestLaw_33 rfl ?_
        refine z_ist1_n h dX5_bestLaw_35 (by decide) (zst1_3 rfl) ?_
        refine z_iload h dX5_bestLaw_36 rfl ?_
        refine z_ist1_n h dX5_bestLaw_38 (by decide) (zst1_2 rfl) ?_
        refine z_iinc h dX5_bestLaw_39 (by decide) rfl (zst1_4 rfl) ?_
        refine z_goto h dX5_bestLaw_42 ?_
        have := ih (k + 1) σ2 (some (zi (zU P ((k + 1 : Nat) : Int)))) (by omega) (zfr_tr h2 g3)
        by_cases z : zU P ((k + 1 : Nat) : Int) < (zBl P k).2
        · rw [e, if_pos z] at this
          first | exact this (by dsimp only; omega) (by dsimp only; omega) | (exfalso; omega)
        · rw [e, if_neg z] at this
          first | exact this (by omega) (by omega) | (exfalso; omega)
  refine z_iconst h dX5_bestLaw_0 ?_
  refine z_ist1_n h dX5_bestLaw_1 (by decide) (zst1_2 rfl) ?_
  refine z_raload_n h dX5_bestLaw_2 rfl ?_
  refine z_raload_n h dX5_bestLaw_3 rfl ?_
  refine z_iconst h dX5_bestLaw_4 ?_
  refine z_cVi2 h dX5_bestLaw_5 lX5_105 vX5_unfairBy rfl L4 (c_X5_unfairBy σ π hp P hP 0 (by omega)) rfl (Nat.le_of_ble_eq_true rfl) (by decide) (fun v σ1 h1 => ?_)
  obtain ⟨rfl, h2, h3⟩ := h1
  refine z_ist1_n h dX5_bestLaw_8 (by decide) (zst1_3 rfl) ?_
  refine z_iconst h dX5_bestLaw_9 ?_
  refine z_ist1 h dX5_bestLaw_10 (by decide) (zst1_4 rfl) ?_
  exact L 3 0 σ1 none (by omega) h3 (by simp [zBl]) h2
