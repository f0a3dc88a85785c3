/-- the place of i, or -4 -/
def zPlace (i : Int) : Nat → List Int → Int
  | _, [] => -4
  | k, x :: t => if x = i then k else zPlace i (k + 1) t
theorem c_X1_placeOf (σ : zM) (line : List Int) (np : Nat) (hnp : np ≤ 10) (i : Int) (hi : 0 ≤ i ∧ i < 10) (hR : cRow σ line np) : zCi mX1_placeOf (fun w => [zr w 5, zi i]) σ (fun r σ' => r = zPlace i 0 line ∧ σ' = σ) := by
  refine zCi_mk (own := RX1) rfl (by decide +kernel) (fun w => [some (zr w 5), some (zi i), none]) (fun _ => rfl) (fun _ => Nat.le_of_ble_eq_true rfl) ?_
  intro Γ h hr
  obtain ⟨r1, r2, r3, r4, r5, r6⟩ := hR
  have L : ∀ (n k : Nat), k + n = line.length → zPlace i 0 line = zPlace i k (line.drop k) → zV Γ σ 2 [some (zr (zw Γ) 5), some (zi i), some (zi k)] [] := by
    intro n
    induction n with
    | zero =>
      intro k h1 h2
      rw [List.drop_eq_nil_of_le (by omega)] at h2
      refine z_iload_n h dX1_placeOf_2 rfl ?_
      refine z_raload_n h dX1_placeOf_3 rfl ?_
      refine y_get 10 h dX1_placeOf_4 fX1_93 L5 rfl rfl ?_
      refine z_icmp_ge h dX1_placeOf_7 (by omega) (by omega) (fun b7 => ?_) (fun b7 => by exfalso; omega)
      refine z_bipush h dX1_placeOf_28 (by decide) ?_
      refine z_irI h hr dX1_placeOf_30 ?_
      rw [h2]
      exact ⟨rfl, rfl⟩
    | succ n ih =>
      intro k h1 h2
      have hlt : k < line.length := by omega
      have hx := List.getElem?_eq_getElem hlt
      rw [List.drop_eq_getElem_cons hlt, zPlace] at h2
      have e9 := r3 k _ hx
      have hxr := r4 _ (List.getElem_mem hlt)
      refine z_iload_n h dX1_placeOf_2 rfl ?_
      refine z_raload_n h dX1_placeOf_3 rfl ?_
      refine y_get 10 h dX1_placeOf_4 fX1_93 L5 rfl rfl ?_
      refine z_icmp_ge h dX1_placeOf_7 (by omega) (by omega) (fun b7 => by exfalso; omega) (fun b7 => ?_)
      refine z_raload_n h dX1_placeOf_10 rfl ?_
      refine z_getr h dX1_placeOf_11 fX1_22 L5 rfl ?_
      refine z_iload_n h dX1_placeOf_14 rfl ?_
      refine z_iald h dX1_placeOf_15 L9 (by decide) (by omega) ?_
      refine z_iload_n h dX1_placeOf_16 rfl ?_
      refine z_icmp_ne h dX1_placeOf_17 (by omega) (by omega) (fun b17 => ?_) (fun b17 => ?_)
      · refine z_iinc h dX1_placeOf_22 (by decide) rfl (zst1_2 rfl) ?_
        refine z_goto h dX1_placeOf_25 ?_
        rw [if_neg (by omega)] at h2
        exact ih (k + 1) (by omega) h2
      · refine z_iload_n h dX1_placeOf_20 rfl ?_
        refine z_irI h hr dX1_placeOf_21 ?_
        rw [if_pos (by omega)] at h2
        rw [h2]
        exact ⟨rfl, rfl⟩
  refine z_iconst h dX1_placeOf_0 ?_
  refine z_ist1_n h dX1_placeOf_1 (by decide) (zst1_2 rfl) ?_
  exact L line.length 0 (by omega) rfl
/-- how many of the first n it is so with -/
def zMany (how : Int → Int) (as : Int) : Nat → Int
  | 0 => 0
  | n + 1 => zMany how as n + (if how n = as then 1 else 0)
theorem zMany_rg (how : Int → Int) (as : Int) : ∀ n, 0 ≤ zMany how as n ∧ zMany how as n ≤ n
  | 0 => by simp [zMany]
  | n + 1 => by
    have := zMany_rg how as n
    unfold zMany
    split <;> omega
theorem c_X1_manyOf (σ : zM) (π : Nat) (hp : zPl π) (hpl : σ 5 6 = π) (P : zP) (hP : cPlan σ π P) (how whn : Int → Int) (hE : cEnd σ how whn) (as : Int) (ha : 0 ≤ as ∧ as ≤ 3) : zCi mX1_manyOf (fun w => [zr w 5, zi as]) σ (fun r σ' => r = zMany how as P.1.length ∧ σ' = σ) := by
  refine zCi_mk (own := RX1) rfl (by decide +kernel) (fun w => [some (zr w 5), some (zi as), none, none]) (fun _ => rfl) (fun _ => Nat.le_of_ble_eq_true rfl) ?_
  intro Γ h hr
  have q1 := hP.1
  have np10 := hP.2.2.2.2.2.1
  have L : ∀ (n k : Nat), k + n = P.1.length → zV Γ σ 4 [some (zr (zw Γ) 5), some (zi as), some (zi (zMany how as k)), some (zi k)] [] := by
    intro n
    induction n with
    | zero =>
      intro k h1
      refine z_iload_n h dX1_manyOf_4 rfl ?_
      refine z_raload_n h dX1_manyOf_5 rfl ?_
      refine y_getd 6 h dX1_manyOf_6 fX1_34 L5 rfl rfl hpl ?_
      refine y_get 5 h dX1_manyOf_9 fX1_59 (zPl_o hp) rfl rfl ?_
      refine z_icmp_ge h dX1_manyOf_12 (by omega) (by omega) (fun b12 => ?_) (fun b12 => by exfalso; omega)
      refine z_iload_n h dX1_manyOf_34 rfl ?_
      refine z_irI h hr dX1_manyOf_35 ?_
      rw [show P.1.length = k by omega]
      exact ⟨rfl, rfl⟩
    | succ n ih =>
      intro k h1
      have h2 := hE k (by omega) (by omega)
      have h3 := zMany_rg how as k
      have h4 : zMany how as (k + 1) = zMany how as k + (if how k = as then 1 else 0) := rfl
      refine z_iload_n h dX1_manyOf_4 rfl ?_
      refine z_raload_n h dX1_manyOf_5 rfl ?_
      refine y_getd 6 h dX1_manyOf_6 fX1_34 L5 rfl rfl hpl ?_
      refine y_get 5 h dX1_manyOf_9 fX1_59 (zPl_o hp) rfl rfl ?_
      refine z_icmp_ge h dX1_manyOf_12 (by omega) (by omega) (fun b12 => by exfalso; omega) (fun b12 => ?_)
      refine z_raload_n h dX1_manyOf_15 rfl ?_
      refine z_getr h dX1_manyOf_16 fX1_9 L5 rfl ?_
      refine z_iload_n h dX1_manyOf_19 rfl ?_
      refine z_iald h dX1_manyOf_20 L6 (by decide) (by omega) ?_
      refine z_iload_n h dX1_manyOf_21 rfl ?_
      refine z_icmp_ne h dX1_manyOf_22 (by omega) (by omega) (fun b22 => ?_) (fun b22 => ?_)
      · refine z_iinc h dX1_manyOf_28 (by decide) rfl (zst1_3 rfl) ?_
        refine z_goto h dX1_manyOf_31 ?_
        have := ih (k + 1) (by omega)
        first | (rw [h4, if_neg (by omega), Int.add_zero] at this; exact this) | (rw [h4, if_pos (by omega)] at this; exact this)
      · refine z_iinc h dX1_manyOf_25 (by decide) rfl (zst1_2 rfl) ?_
        refine z_iinc h dX1_manyOf_28 (by decide) rfl (zst1_3 rfl) ?_
        refine z_goto h dX1_manyOf_31 ?_
        have := ih (k + 1) (by omega)
        first | (rw [h4, if_neg (by omega), Int.add_zero] at this; exact this) | (rw [h4, if_pos (by omega)] at this; exact this)
  refine z_iconst h dX1_manyOf_0 ?_
  refine z_ist1_n h dX1_manyOf_1 (by decide) (zst1_2 rfl) ?_
  refine z_iconst h dX1_manyOf_2 ?_
  refine z_ist1_n h dX1_manyOf_3 (by decide) (zst1_3 rfl) ?_
  exact L P.1.length 0 (by omega)
/-! cries -/
def yTc (hu : Nat) (t : Int) (line : List Int) : Nat → List (Int × Int) → Bool
  | _, [] => false
  | c, p :: r => (!hu.testBit c && decide (p.2 = t) && decide (p.1 ∈ line)) || yTc hu t line (c + 1) r
theorem zandn {a h : Nat} (ha : a < 2147483648) (hh : h < 2147483648) : zand (a : Int) (zxor (h : Int) (-1)) = ((a &&& (h ^^^ 4294967295) : Nat) : Int) := by
  have e1 : (Int32.ofInt (a : Int)).toBitVec.toNat = a := by
    show (Int32.ofNat a).toBitVec.toNat = a
    exact pk_tn (by omega)
  have e2 : (Int32.ofInt (h : Int)).toBitVec.toNat = h := by
    show (Int32.ofNat h).toBitVec.toNat = h
    exact pk_tn (by omega)
  have e3 : (Int32.ofInt (-1)).toBitVec.toNat = 4294967295 := by decide
  unfold zand zxor
  rw [Int32.ofInt_toInt]
  have e4 : (Int32.ofInt (a : Int) &&& (Int32.ofInt (h : Int) ^^^ Int32.ofInt (-1))).toBitVec.toNat = a &&& (h ^^^ 4294967295) := by
    rw [Int32.toBitVec_and, Int32.toBitVec_xor, BitVec.toNat_and, BitVec.toNat_xor, e1, e2, e3]
  have e5 : a &&& (h ^^^ 4294967295) ≤ a := Nat.and_le_left
  show BitVec.toInt _ = _
  rw [BitVec.toInt_eq_toNat_of_lt (by rw [e4]; omega), e4]
theorem zandn_bit {a h c : Nat} (hc : c < 32) : (a &&& (h ^^^ 4294967295)).testBit c = (a.testBit c && !h.testBit c) := by
  rw [Nat.testBit_and, Nat.testBit_xor, show (4294967295 : Nat) = 2 ^ 32 - 1 by rfl, Nat.testBit_two_pow_sub_one]
  simp [hc]
theorem c_X1_isToldCry (σ : zM) (π : Nat) (hp : zPl π) (hpl : σ 5 6 = π) (P : zP) (hP : cPlan σ π P) (line : List Int) (hR : cRow σ line P.1.length) (t : Int) (ht : 0 ≤ t ∧ t < 200) (hu : Nat) (hh : σ 5 8 = hu) (hu2 : hu < 256) : zCi mX1_isToldCry (fun w => [zr w 5, zi t]) σ (fun r σ' => r = zb (yTc hu t line 0 P.2.1) ∧ σ' = σ) := by
  refine zCi_mk (own := RX1) rfl (by decide +kernel) (fun w => [some (zr w 5), some (zi t), none, none]) (fun _ => rfl) (fun _ => Nat.le_of_ble_eq_true rfl) ?_
  intro Γ h hr
  have hpi : 39 ≤ π := by unfold zPl at hp; omega
  obtain ⟨r1, r2, r3, r4, r5, r6⟩ := hR
  have np10 := hP.2.2.2.2.2.1
  obtain ⟨c1, c2, c3, c4⟩ := hP.2.2.2.1
  have c5 := hP.2.2.2.2.2.2.2.1
  have none_late : 100 ≤ t → ∀ (l : List (Int × Int)) (c : Nat), (∀ p ∈ l, p.2 < 100) → yTc hu t line c l = false := by
    intro h l
    induction l with
    | nil => intro c _; rfl
    | cons p l ih =>
      intro c hl
      rw [yTc, ih (c + 1) (fun q hq => hl q (List.mem_cons_of_mem _ hq))]
      have := hl p List.mem_cons_self
      simp
      intro _ e
      omega
  have hlt100 : ∀ p ∈ P.2.1, p.2 < 100 := by
    intro p hpm
    obtain ⟨k, hk⟩ := List.getElem?_of_mem hpm
    exact (c3 k p hk).2.2.2
  by_cases h100 : 100 ≤ t
  · refine z_iload_n h dX1_isToldCry_0 rfl ?_
    refine z_if_lt h dX1_isToldCry_1 (by omega) (fun b1 => by exfalso; omega) (fun b1 => ?_)
    refine z_iload_n h dX1_isToldCry_4 rfl ?_
    refine z_bipush h dX1_isToldCry_5 (by decide) ?_
    refine z_icmp_lt h dX1_isToldCry_7 (by omega) (by omega) (fun b7 => by exfalso; omega) (fun b7 => ?_)
    refine z_iconst h dX1_isToldCry_10 ?_
    refine z_irZ h hr dX1_isToldCry_11 (by first | decide | omega | simp_all) ?_
    rw [none_late h100 P.2.1 0 hlt100]
    exact ⟨rfl, rfl⟩
  have e3 := c4 t ht.1 (by omega)
  have hbl := zbn_lt P.2.1 t
  have hb256 : zbn P.2.1 t < 256 := Nat.lt_of_lt_of_le hbl (Nat.pow_le_pow_right (by decide) c2 : 2 ^ P.2.1.length ≤ 2 ^ 8)
  obtain ⟨B, hB⟩ : ∃ B : Nat, B = zbn P.2.1 t &&& (hu ^^^ 4294967295) := ⟨_, rfl⟩
  have hBe : zand (σ (π + 5 + 3) t) (zxor (σ 5 8) (-1)) = B := by rw [e3, hh, zandn (by omega) (by omega), hB]
  have hBl : B < 256 := by rw [hB]; exact Nat.lt_of_le_of_lt Nat.and_le_left hb256
  have hBit : ∀ (c : Nat) p, P.2.1[c]? = some p → B.testBit c = (decide (p.2 = t) && !hu.testBit c) := by
    intro c p hcp
    have hcl := (List.getElem?_eq_some_iff.mp hcp).1
    rw [hB, zandn_bit (by omega), zbn_bit, hcp]
  have L : ∀ (n c : Nat), c + n = P.2.1.length → yTc hu t line 0 P.2.1 = yTc hu t line c (P.2.1.drop c) → zV Γ σ 40 [some (zr (zw Γ) 5), some (zi t), some (zi B), some (zi c)] [] := by
    intro n
    induction n with
    | zero =>
      intro c h1 h2
      rw [List.drop_eq_nil_of_le (by omega)] at h2
      refine z_iload_n h dX1_isToldCry_40 rfl ?_
      refine z_raload_n h dX1_isToldCry_41 rfl ?_
      refine y_getd 6 h dX1_isToldCry_42 fX1_34 L5 rfl rfl hpl ?_
      refine z_getr h dX1_isToldCry_45 fX1_116 (zPl_o hp) rfl ?_
      refine y_get 3 h dX1_isToldCry_48 fX1_125 (zCy_o (zPl_c hp)) rfl rfl ?_
      refine z_icmp_ge h dX1_isToldCry_51 (by omega) (by omega) (fun b51 => ?_) (fun b51 => by exfalso; omega)
      refine z_iconst h dX1_isToldCry_91 ?_
      refine z_irZ h hr dX1_isToldCry_92 (by first | decide | omega | simp_all) ?_
      rw [h2]
      exact ⟨rfl, rfl⟩
    | succ n ih =>
      intro c h1 h2
      have hlt : c < P.2.1.length := by omega
      have hx := List.getElem?_eq_getElem hlt
      obtain ⟨p, hpe⟩ : ∃ p, p = P.2.1[c] := ⟨_, rfl⟩
      rw [← hpe] at hx
      rw [List.drop_eq_getElem_cons hlt, ← hpe, yTc] at h2
      have g1 := c3 c p hx
      have g2 := c5 p (List.mem_of_getElem? hx)
      have g3 := hBit c p hx
      have g4 := zbit (s := B) (t := c) (by omega) (by omega)
      have g5 := r6 p.1 (by omega) (by omega)
      rw [g3] at g4
      have g6 : zand (zshr B c) 1 = 0 ∨ zand (zshr B c) 1 = 1 := by rw [g4]; split <;> simp
      by_cases hb : (decide (p.2 = t) && !hu.testBit c) = true
      · have g4 : zand (zshr B c) 1 = 1 := by rw [g4, if_pos hb]
        have g7 : (!hu.testBit c && decide (p.2 = t)) = true := by rw [Bool.and_comm]; exact hb
        rw [g7, Bool.true_and] at h2
        by_cases hm : p.1 ∈ line
        · rw [if_pos hm] at g5
          rw [decide_eq_true hm, Bool.true_or] at h2
          refine z_iload_n h dX1_isToldCry_40 rfl ?_
          refine z_raload_n h dX1_isToldCry_41 rfl ?_
          refine y_getd 6 h dX1_isToldCry_42 fX1_34 L5 rfl rfl hpl ?_
          refine z_getr h dX1_isToldCry_45 fX1_116 (zPl_o hp) rfl ?_
          refine y_get 3 h dX1_isToldCry_48 fX1_125 (zCy_o (zPl_c hp)) rfl rfl ?_
          refine z_icmp_ge h dX1_isToldCry_51 (by omega) (by omega) (fun b51 => by exfalso; omega) (fun b51 => ?_)
          refine z_iload_n h dX1_isToldCry_54 rfl ?_
          refine z_iload_n h dX1_isToldCry_55 rfl ?_
          refine z_ishr h dX1_isToldCry_56 ?_
          refine z_iconst h dX1_isToldCry_57 ?_
          refine z_iand h dX1_isToldCry_58 ?_
          refine z_iconst h dX1_isToldCry_59 ?_
          refine z_icmp_ne h dX1_isToldCry_60 (by omega) (by omega) (fun b60 => by exfalso; omega) (fun b60 => ?_)
          refine z_raload_n h dX1_isToldCry_63 rfl ?_
          refine z_getr h dX1_isToldCry_64 fX1_18 L5 rfl ?_
          refine z_raload_n h dX1_isToldCry_67 rfl ?_
          refine y_getd 6 h dX1_isToldCry_68 fX1_34 L5 rfl rfl hpl ?_
          refine z_getr h dX1_isToldCry_71 fX1_116 (zPl_o hp) rfl ?_
          refine z_getr h dX1_isToldCry_74 fX1_126 (zCy_o (zPl_c hp)) rfl ?_
          refine z_iload_n h dX1_isToldCry_77 rfl ?_
          refine z_iald h dX1_isToldCry_78 (zCy_1 (zPl_c hp)) (by decide) (by omega) ?_
          rw [g1.1]
          refine z_zald h dX1_isToldCry_79 L8 (by decide) (by omega) ?_
          rw [g5]
          refine z_if_eq h dX1_isToldCry_80 (by omega) (fun b80 => by exfalso; omega) (fun b80 => ?_)
          refine z_iconst h dX1_isToldCry_83 ?_
          refine z_irZ h hr dX1_isToldCry_84 (by first | decide | omega | simp_all) ?_
          rw [h2]
          exact ⟨rfl, rfl⟩
        · rw [if_neg hm] at g5
          rw [decide_eq_false hm, Bool.false_or] at h2
          refine z_iload_n h dX1_isToldCry_40 rfl ?_
          refine z_raload_n h dX1_isToldCry_41 rfl ?_
          refine y_getd 6 h dX1_isToldCry_42 fX1_34 L5 rfl rfl hpl ?_
          refine z_getr h dX1_isToldCry_45 fX1_116 (zPl_o hp) rfl ?_
          refine y_get 3 h dX1_isToldCry_48 fX1_125 (zCy_o (zPl_c hp)) rfl rfl ?_
          refine z_icmp_ge h dX1_isToldCry_51 (by omega) (by omega) (fun b51 => by exfalso; omega) (fun b51 => ?_)
          refine z_iload_n h dX1_isToldCry_54 rfl ?_
          refine z_iload_n h dX1_isToldCry_55 rfl ?_
          refine z_ishr h dX1_isToldCry_56 ?_
          refine z_iconst h dX1_isToldCry_57 ?_
          refine z_iand h dX1_isToldCry_58 ?_
          refine z_iconst h dX1_isToldCry_59 ?_
          refine z_icmp_ne h dX1_isToldCry_60 (by omega) (by omega) (fun b60 => by exfalso; omega) (fun b60 => ?_)
          refine z_raload_n h dX1_isToldCry_63 rfl ?_
          refine z_getr h dX1_isToldCry_64 fX1_18 L5 rfl ?_
          refine z_raload_n h dX1_isToldCry_67 rfl ?_
          refine y_getd 6 h dX1_isToldCry_68 fX1_34 L5 rfl rfl hpl ?_
          refine z_getr h dX1_isToldCry_71 fX1_116 (zPl_o hp) rfl ?_
          refine z_getr h dX1_isToldCry_74 fX1_126 (zCy_o (zPl_c hp)) rfl ?_
          refine z_iload_n h dX1_isToldCry_77 rfl ?_
          refine z_iald h dX1_isToldCry_78 (zCy_1 (zPl_c hp)) (by decide) (by omega) ?_
          rw [g1.1]
          refine z_zald h dX1_isToldCry_79 L8 (by decide) (by omega) ?_
          rw [g5]
          refine z_if_eq h dX1_isToldCry_80 (by omega) (fun b80 => ?_) (fun b80 => by exfalso; omega)
          refine z_iinc h dX1_isToldCry_85 (by decide) rfl (zst1_3 rfl) ?_
          refine z_goto h dX1_isToldCry_88 ?_
          exact ih (c + 1) (by omega) h2
      · have g4 : zand (zshr B c) 1 = 0 := by rw [g4, if_neg hb]
        have g7 : (!hu.testBit c && decide (p.2 = t)) = false := by rw [Bool.and_comm]; simpa using hb
        rw [g7, Bool.false_and, Bool.false_or] at h2
        refine z_iload_n h dX1_isToldCry_40 rfl ?_
        refine z_raload_n h dX1_isToldCry_41 rfl ?_
        refine y_getd 6 h dX1_isToldCry_42 fX1_34 L5 rfl rfl hpl ?_
        refine z_getr h dX1_isToldCry_45 fX1_116 (zPl_o hp) rfl ?_
        refine y_get 3 h dX1_isToldCry_48 fX1_125 (zCy_o (zPl_c hp)) rfl rfl ?_
        refine z_icmp_ge h dX1_isToldCry_51 (by omega) (by omega) (fun b51 => by exfalso; omega) (fun b51 => ?_)
        refine z_iload_n h dX1_isToldCry_54 rfl ?_
        refine z_iload_n h dX1_isToldCry_55 rfl ?_
        refine z_ishr h dX1_isToldCry_56 ?_
        refine z_iconst h dX1_isToldCry_57 ?_
        refine z_iand h dX1_isToldCry_58 ?_
        refine z_iconst h dX1_isToldCry_59 ?_
        refine z_icmp_ne h dX1_isToldCry_60 (by omega) (by omega) (fun b60 => ?_) (fun b60 => by exfalso; omega)
        refine z_iinc h dX1_isToldCry_85 (by decide) rfl (zst1_3 rfl) ?_
        refine z_goto h dX1_isToldCry_88 ?_
        exact ih (c + 1) (by omega) h2
  have zero : B = 0 → yTc hu t line 0 P.2.1 = false := by
    intro hz
    have : ∀ (n c : Nat), c + n = P.2.1.length → yTc hu t line c (P.2.1.drop c) = false := by
      intro n
      induction n with
      | zero => intro c h; rw [List.drop_eq_nil_of_le (by omega)]; rfl
      | succ n ih =>
        intro c h
        have hlt : c < P.2.1.length := by omega
        have g3 := hBit c _ (List.getElem?_eq_getElem hlt)
        rw [hz, Nat.zero_testBit] at g3
        rw [List.drop_eq_getElem_cons hlt, yTc, ih (c + 1) (by omega), Bool.and_comm (!hu.testBit c), ← g3]
        rfl
    exact this P.2.1.length 0 (by omega)
  refine z_iload_n h dX1_isToldCry_0 rfl ?_
  refine z_if_lt h dX1_isToldCry_1 (by omega) (fun b1 => by exfalso; omega) (fun b1 => ?_)
  refine z_iload_n h dX1_isToldCry_4 rfl ?_
  refine z_bipush h dX1_isToldCry_5 (by decide) ?_
  refine z_icmp_lt h dX1_isToldCry_7 (by omega) (by omega) (fun b7 => ?_) (fun b7 => by exfalso; omega)
  refine z_raload_n h dX1_isToldCry_12 rfl ?_
  refine y_getd 6 h dX1_isToldCry_13 fX1_34 L5 rfl rfl hpl ?_
  refine z_getr h dX1_isToldCry_16 fX1_116 (zPl_o hp) rfl ?_
  refine z_getr h dX1_isToldCry_19 fX1_120 (zCy_o (zPl_c hp)) rfl ?_
  refine z_iload_n h dX1_isToldCry_22 rfl ?_
  refine z_iald h dX1_isToldCry_23 (zCy_3 (zPl_c hp)) (by decide) (by omega) ?_
  refine z_raload_n h dX1_isToldCry_24 rfl ?_
  refine y_get 8 h dX1_isToldCry_25 fX1_43 L5 rfl rfl ?_
  refine z_iconst h dX1_isToldCry_28 ?_
  refine z_ixor h dX1_isToldCry_29 ?_
  refine z_iand h dX1_isToldCry_30 ?_
  rw [hBe]
  refine z_ist1_n h dX1_isToldCry_31 (by decide) (zst1_2 rfl) ?_
  refine z_iload_n h dX1_isToldCry_32 rfl ?_
  refine z_if_ne h dX1_isToldCry_33 (by omega) (fun b33 => ?_) (fun b33 => ?_)
  · refine z_iconst h dX1_isToldCry_38 ?_
    refine z_ist1_n h dX1_isToldCry_39 (by decide) (zst1_3 rfl) ?_
    exact L P.2.1.length 0 (by omega) rfl
  · refine z_iconst h dX1_isToldCry_36 ?_
    refine z_irZ h hr dX1_isToldCry_37 (by first | decide | omega | simp_all) ?_
    rw [zero (by omega)]
    exact ⟨rfl, rfl⟩
def yEx (t : Int) (line : List Int) (ex : List (Int × Int)) : Bool := ex.any (fun p => decide (p.2 = t) && decide (p.1 ∈ line))
theorem c_X1_isExtraCry (σ : zM) (line : List Int) (np : Nat) (hR : cRow σ line np) (t : Int) (ht : 0 ≤ t ∧ t < 200) (h0 : 0 ≤ σ 10 0 ∧ σ 10 0 < 10) (h1 : 0 ≤ σ 10 1 ∧ σ 10 1 < 10) (m0 : -1 ≤ σ 11 0 ∧ σ 11 0 < 200) (m1 : -1 ≤ σ 11 1 ∧ σ 11 1 < 200) : zCi mX1_isExtraCry (fun w => [zr w 5, zi t]) σ (fun r σ' => r = zb (yEx t line [(σ 10 0, σ 11 0), (σ 10 1, σ 11 1)]) ∧ σ' = σ) := by
  refine zCi_mk (own := RX1) rfl (by decide +kernel) (fun w => [some (zr w 5), some (zi t), none]) (fun _ => rfl) (fun _ => Nat.le_of_ble_eq_true rfl) ?_
  intro Γ h hr
  obtain ⟨r1, r2, r3, r4, r5, r6⟩ := hR
  have g0 := r6 (σ 10 0) h0.1 h0.2
  have g1 := r6 (σ 10 1) h1.1 h1.2
  have e : yEx t line [(σ 10 0, σ 11 0), (σ 10 1, σ 11 1)] = ((decide (σ 11 0 = t) && decide (σ 10 0 ∈ line)) || (decide (σ 11 1 = t) && decide (σ 10 1 ∈ line))) := by simp [yEx]
  rw [e] at hr
  have b0 : σ 8 (σ 10 0) = 0 ∨ σ 8 (σ 10 0) = 1 := by rw [g0]; split <;> simp
  have b1 : σ 8 (σ 10 1) = 0 ∨ σ 8 (σ 10 1) = 1 := by rw [g1]; split <;> simp
  have i0 : σ 8 (σ 10 0) = 1 ↔ σ 10 0 ∈ line := by rw [g0]; split <;> simp_all
  have i1 : σ 8 (σ 10 1) = 1 ↔ σ 10 1 ∈ line := by rw [g1]; split <;> simp_all
  have L1 : ¬ (σ 11 0 = t ∧ σ 10 0 ∈ line) → zV Γ σ 2 [some (zr (zw Γ) 5), some (zi t), some (zi 1)] [] := by
    intro hn
    have hn' : (decide (σ 11 0 = t) && decide (σ 10 0 ∈ line)) = false := by simp; exact fun a b => hn ⟨a, b⟩
    rw [hn', Bool.false_or] at hr
    refine z_iload_n h dX1_isExtraCry_2 rfl ?_
    refine z_iconst h dX1_isExtraCry_3 ?_
    refine z_icmp_ge h dX1_isExtraCry_4 (by omega) (by omega) (fun b4 => by exfalso; omega) (fun b4 => ?_)
    refine z_raload_n h dX1_isExtraCry_7 rfl ?_
    refine z_getr h dX1_isExtraCry_8 fX1_28 L5 rfl ?_
    refine z_iload_n h dX1_isExtraCry_11 rfl ?_
    refine z_iald h dX1_isExtraCry_12 L11 (by decide) (by omega) ?_
    refine z_iload_n h dX1_isExtraCry_13 rfl ?_
    refine z_icmp_ne h dX1_isExtraCry_14 (by omega) (by omega) (fun b14 => ?_) (fun b14 => ?_)
    · refine z_iinc h dX1_isExtraCry_33 (by decide) rfl (zst1_2 rfl) ?_
      refine z_goto h dX1_isExtraCry_36 ?_
      have hf : (decide (σ 11 1 = t) && decide (σ 10 1 ∈ line)) = false := by (simp; intro a b; have := i1.mpr b; omega)
      rw [hf] at hr
      refine z_iload_n h dX1_isExtraCry_2 rfl ?_
      refine z_iconst h dX1_isExtraCry_3 ?_
      refine z_icmp_ge h dX1_isExtraCry_4 (by omega) (by omega) (fun b4 => ?_) (fun b4 => by exfalso; omega)
      refine z_iconst h dX1_isExtraCry_39 ?_
      refine z_irZ h hr dX1_isExtraCry_40 (by decide) ?_
      exact ⟨rfl, rfl⟩
    · refine z_raload_n h dX1_isExtraCry_17 rfl ?_
      refine z_getr h dX1_isExtraCry_18 fX1_18 L5 rfl ?_
      refine z_raload_n h dX1_isExtraCry_21 rfl ?_
      refine z_getr h dX1_isExtraCry_22 fX1_25 L5 rfl ?_
      refine z_iload_n h dX1_isExtraCry_25 rfl ?_
      refine z_iald h dX1_isExtraCry_26 L10 (by decide) (by omega) ?_
      refine z_zald h dX1_isExtraCry_27 L8 (by decide) (by omega) ?_
      refine z_if_eq h dX1_isExtraCry_28 (by omega) (fun b28 => ?_) (fun b28 => ?_)
      · refine z_iinc h dX1_isExtraCry_33 (by decide) rfl (zst1_2 rfl) ?_
        refine z_goto h dX1_isExtraCry_36 ?_
        have hf : (decide (σ 11 1 = t) && decide (σ 10 1 ∈ line)) = false := by (simp; intro a b; have := i1.mpr b; omega)
        rw [hf] at hr
        refine z_iload_n h dX1_isExtraCry_2 rfl ?_
        refine z_iconst h dX1_isExtraCry_3 ?_
        refine z_icmp_ge h dX1_isExtraCry_4 (by omega) (by omega) (fun b4 => ?_) (fun b4 => by exfalso; omega)
        refine z_iconst h dX1_isExtraCry_39 ?_
        refine z_irZ h hr dX1_isExtraCry_40 (by decide) ?_
        exact ⟨rfl, rfl⟩
      · refine z_iconst h dX1_isExtraCry_31 ?_
        refine z_irZ h hr dX1_isExtraCry_32 (by first | decide | omega | simp_all) ?_
        have hf : (decide (σ 11 1 = t) && decide (σ 10 1 ∈ line)) = true := by (simp; exact ⟨by omega, i1.mp (by omega)⟩)
        rw [hf]
        exact ⟨rfl, rfl⟩
  refine z_iconst h dX1_isExtraCry_0 ?_
  refine z_ist1_n h dX1_isExtraCry_1 (by decide) (zst1_2 rfl) ?_
  refine z_iload_n h dX1_isExtraCry_2 rfl ?_
  refine z_iconst h dX1_isExtraCry_3 ?_
  refine z_icmp_ge h dX1_isExtraCry_4 (by omega) (by omega) (fun b4 => by exfalso; omega) (fun b4 => ?_)
  refine z_raload_n h dX1_isExtraCry_7 rfl ?_
  refine z_getr h dX1_isExtraCry_8 fX1_28 L5 rfl ?_
  refine z_iload_n h dX1_isExtraCry_11 rfl ?_
  refine z_iald h dX1_isExtraCry_12 L11 (by decide) (by omega) ?_
  refine z_iload_n h dX1_isExtraCry_13 rfl ?_
  refine z_icmp_ne h dX1_isExtraCry_14 (by omega) (by omega) (fun b14 => ?_) (fun b14 => ?_)
  · refine z_iinc h dX1_isExtraCry_33 (by decide) rfl (zst1_2 rfl) ?_
    refine z_goto h dX1_isExtraCry_36 ?_
    refine L1 (fun z => ?_)
    have := i0.mpr z.2
    omega
  · refine z_raload_n h dX1_isExtraCry_17 rfl ?_
    refine z_getr h dX1_isExtraCry_18 fX1_18 L5 rfl ?_
    refine z_raload_n h dX1_isExtraCry_21 rfl ?_
    refine z_getr h dX1_isExtraCry_22 fX1_25 L5 rfl ?_
    refine z_iload_n h dX1_isExtraCry_25 rfl ?_
    refine z_iald h dX1_isExtraCry_26 L10 (by decide) (by omega) ?_
    refine z_zald h dX1_isExtraCry_27 L8 (by decide) (by omega) ?_
    refine z_if_eq h dX1_isExtraCry_28 (by omega) (fun b28 => ?_) (fun b28 => ?_)
    · refine z_iinc h dX1_isExtraCry_33 (by decide) rfl (zst1_2 rfl) ?_
      refine z_goto h dX1_isExtraCry_36 ?_
      refine L1 (fun z => ?_)
      have := i0.mpr z.2
      omega
    · refine z_iconst h dX1_isExtraCry_31 ?_
      refine z_irZ h hr dX1_isExtraCry_32 (by first | decide | omega | simp_all) ?_
      have hf : (decide (σ 11 0 = t) && decide (σ 10 0 ∈ line)) = true := by (simp; exact ⟨by omega, i0.mp (by omega)⟩)
      rw [hf]
      exact ⟨rfl, rfl⟩
