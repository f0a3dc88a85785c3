def yDn (z k t : Int) : Bool := decide ((7919 * z + 6151 * k + 3571 * t + 1) * (7919 * z + 6151 * k + 3571 * t + 1) % 65521 % 20 = 0)
theorem c_X1_isDrawn (σ : zM) (k t : Int) (hk : 0 ≤ k ∧ k ≤ 10) (ht : 0 ≤ t ∧ t < 200) (hz : 0 ≤ σ 5 9 ∧ σ 5 9 ≤ 9999) : zCi mX1_isDrawn (fun w => [zr w 5, zi k, zi t]) σ (fun r σ' => r = zb (yDn (σ 5 9) k t) ∧ σ' = σ) := by
  refine zCi_mk (own := RX1) rfl (by decide +kernel) (fun w => [some (zr w 5), some (zi k), some (zi t), none, none]) (fun _ => rfl) (fun _ => Nat.le_of_ble_eq_true rfl) ?_
  intro Γ h hr
  obtain ⟨X, hX⟩ : ∃ X, X = 7919 * σ 5 9 + 6151 * k + 3571 * t + 1 := ⟨_, rfl⟩
  have hX2 : 0 ≤ X ∧ X ≤ 90000000 := by omega
  have hXX : 0 ≤ X * X := Int.mul_nonneg hX2.1 hX2.1
  have hXY : X * X ≤ 90000000 * 90000000 := Int.mul_le_mul hX2.2 hX2.2 hX2.1 (by omega)
  have e : yDn (σ 5 9) k t = decide (X * X % 65521 % 20 = 0) := by unfold yDn; rw [← hX]
  rw [e] at hr
  have hc : zcmp (X * X % 65521 % 20) 0 = 0 ↔ X * X % 65521 % 20 = 0 := by unfold zcmp; split <;> (try split) <;> omega
  have hc2 : -1 ≤ zcmp (X * X % 65521 % 20) 0 ∧ zcmp (X * X % 65521 % 20) 0 ≤ 1 := by unfold zcmp; split <;> (try split) <;> omega
  refine z_ldc2 (x := 7919) h dX1_isDrawn_0 kX1_136 (by decide) ?_
  refine z_raload_n h dX1_isDrawn_3 rfl ?_
  refine y_get 9 h dX1_isDrawn_4 fX1_46 L5 rfl rfl ?_
  refine z_i2l h dX1_isDrawn_7 (by omega) ?_
  refine z_lmul h dX1_isDrawn_8 ?_
  refine z_ldc2 (x := 6151) h dX1_isDrawn_9 kX1_138 (by decide) ?_
  refine z_iload_n h dX1_isDrawn_12 rfl ?_
  refine z_i2l h dX1_isDrawn_13 (by omega) ?_
  refine z_lmul h dX1_isDrawn_14 ?_
  refine z_ladd h dX1_isDrawn_15 ?_
  refine z_ldc2 (x := 3571) h dX1_isDrawn_16 kX1_140 (by decide) ?_
  refine z_iload_n h dX1_isDrawn_19 rfl ?_
  refine z_i2l h dX1_isDrawn_20 (by omega) ?_
  refine z_lmul h dX1_isDrawn_21 ?_
  refine z_ladd h dX1_isDrawn_22 ?_
  refine z_lconst (x := 1) h dX1_isDrawn_23 (by decide) ?_
  refine z_ladd h dX1_isDrawn_24 ?_
  rw [← hX]
  refine z_lst_n h dX1_isDrawn_25 (by decide) (zst2_3 rfl) ?_
  refine z_lload_n h dX1_isDrawn_26 rfl ?_
  refine z_lload_n h dX1_isDrawn_27 rfl ?_
  refine z_lmul h dX1_isDrawn_28 ?_
  refine z_ldc2 (x := 65521) h dX1_isDrawn_29 kX1_142 (by decide) ?_
  refine z_lrem h dX1_isDrawn_32 (by omega) (by omega) ?_
  refine z_ldc2 (x := 20) h dX1_isDrawn_33 kX1_144 (by decide) ?_
  refine z_lrem h dX1_isDrawn_36 (by omega) (by omega) ?_
  refine z_lconst (x := 0) h dX1_isDrawn_37 (by decide) ?_
  refine z_lcmp h dX1_isDrawn_38 (by omega) (by omega) ?_
  refine z_if_ne h dX1_isDrawn_39 (by omega) (fun b39 => ?_) (fun b39 => ?_)
  · refine z_iconst h dX1_isDrawn_46 ?_
    refine z_irZ h hr dX1_isDrawn_47 (by first | decide | omega | simp_all) ?_
    refine ⟨?_, rfl⟩
    by_cases z : X * X % 65521 % 20 = 0
    · rw [decide_eq_true z]; first | rfl | (exfalso; omega)
    · rw [decide_eq_false z]; first | rfl | (exfalso; omega)
  · refine z_iconst h dX1_isDrawn_42 ?_
    refine z_goto h dX1_isDrawn_43 ?_
    refine z_irZ h hr dX1_isDrawn_47 (by first | decide | omega | simp_all) ?_
    refine ⟨?_, rfl⟩
    by_cases z : X * X % 65521 % 20 = 0
    · rw [decide_eq_true z]; first | rfl | (exfalso; omega)
    · rw [decide_eq_false z]; first | rfl | (exfalso; omega)
def yDr (z t : Int) (line : List Int) : List (Int × Int × Int) → Int → Int → Bool
  | [], _, _ => false
  | p :: r, i, k => if p.2.1 = 1 then (decide (i ∈ line) && yDn z k t) || yDr z t line r (i + 1) (k + 1) else yDr z t line r (i + 1) k
theorem c_X1_isDrawnCry (σ : zM) (π : Nat) (hp : zPl π) (hpl : σ 5 6 = π) (P : zP) (hP : cPlan σ π P) (line : List Int) (hR : cRow σ line P.1.length) (t : Int) (ht : 0 ≤ t ∧ t < 200) (hz : 0 ≤ σ 5 9 ∧ σ 5 9 ≤ 9999) : zCi mX1_isDrawnCry (fun w => [zr w 5, zi t]) σ (fun r σ' => r = zb (yDr (σ 5 9) t line P.1 0 0) ∧ σ' = σ) := by
  refine zCi_mk (own := RX1) rfl (by decide +kernel) (fun w => [some (zr w 5), some (zi t), none, none]) (fun _ => rfl) (fun _ => Nat.le_of_ble_eq_true rfl) ?_
  intro Γ h hr
  obtain ⟨r1, r2, r3, r4, r5, r6⟩ := hR
  have q1 := hP.1
  have np10 := hP.2.2.2.2.2.1
  have L : ∀ (n i : Nat) (k : Int), i + n = P.1.length → 0 ≤ k ∧ k ≤ i → yDr (σ 5 9) t line P.1 0 0 = yDr (σ 5 9) t line (P.1.drop i) i k → zV Γ σ 4 [some (zr (zw Γ) 5), some (zi t), some (zi k), some (zi i)] [] := by
    intro n
    induction n with
    | zero =>
      intro i k h1 h2 h3
      rw [List.drop_eq_nil_of_le (by omega)] at h3
      refine z_iload_n h dX1_isDrawnCry_4 rfl ?_
      refine z_raload_n h dX1_isDrawnCry_5 rfl ?_
      refine y_getd 6 h dX1_isDrawnCry_6 fX1_34 L5 rfl rfl hpl ?_
      refine y_get 5 h dX1_isDrawnCry_9 fX1_59 (zPl_o hp) rfl rfl ?_
      refine z_icmp_ge h dX1_isDrawnCry_12 (by omega) (by omega) (fun b12 => ?_) (fun b12 => by exfalso; omega)
      refine z_iconst h dX1_isDrawnCry_57 ?_
      refine z_irZ h hr dX1_isDrawnCry_58 (by first | decide | omega | simp_all) ?_
      rw [h3]
      exact ⟨rfl, rfl⟩
    | succ n ih =>
      intro i k h1 h2 h3
      have hlt : i < P.1.length := by omega
      have hx := List.getElem?_eq_getElem hlt
      obtain ⟨p, hpe⟩ : ∃ p, p = P.1[i] := ⟨_, rfl⟩
      rw [← hpe] at hx
      rw [List.drop_eq_getElem_cons hlt, ← hpe, yDr] at h3
      have g1 := hP.2.1 i p hx
      have g2 := hP.2.2.2.2.2.2.1 p (List.mem_of_getElem? hx)
      have g3 := r6 i (by omega) (by omega)
      have g4 : (i : Int) + 1 = ((i + 1 : Nat) : Int) := by omega
      rw [g4] at h3
      by_cases hk : p.2.1 = 1
      · rw [if_pos hk] at h3
        by_cases hm : (i : Int) ∈ line
        · rw [if_pos hm] at g3
          rw [decide_eq_true hm, Bool.true_and] at h3
          cases hd : yDn (σ 5 9) k t
          · rw [hd, Bool.false_or] at h3
            refine z_iload_n h dX1_isDrawnCry_4 rfl ?_
            refine z_raload_n h dX1_isDrawnCry_5 rfl ?_
            refine y_getd 6 h dX1_isDrawnCry_6 fX1_34 L5 rfl rfl hpl ?_
            refine y_get 5 h dX1_isDrawnCry_9 fX1_59 (zPl_o hp) rfl rfl ?_
            refine z_icmp_ge h dX1_isDrawnCry_12 (by omega) (by omega) (fun b12 => by exfalso; omega) (fun b12 => ?_)
            refine z_raload_n h dX1_isDrawnCry_15 rfl ?_
            refine y_getd 6 h dX1_isDrawnCry_16 fX1_34 L5 rfl rfl hpl ?_
            refine z_getr h dX1_isDrawnCry_19 fX1_129 (zPl_o hp) rfl ?_
            refine z_iload_n h dX1_isDrawnCry_22 rfl ?_
            refine z_iald h dX1_isDrawnCry_23 (zPl_2 hp) (by decide) (by omega) ?_
            refine z_iconst h dX1_isDrawnCry_24 ?_
            refine z_icmp_ne h dX1_isDrawnCry_25 (by omega) (by omega) (fun b25 => by exfalso; omega) (fun b25 => ?_)
            refine z_raload_n h dX1_isDrawnCry_28 rfl ?_
            refine z_getr h dX1_isDrawnCry_29 fX1_18 L5 rfl ?_
            refine z_iload_n h dX1_isDrawnCry_32 rfl ?_
            refine z_zald h dX1_isDrawnCry_33 L8 (by decide) (by omega) ?_
            refine z_if_eq h dX1_isDrawnCry_34 (by omega) (fun b34 => by exfalso; omega) (fun b34 => ?_)
            refine z_raload_n h dX1_isDrawnCry_37 rfl ?_
            refine z_iload_n h dX1_isDrawnCry_38 rfl ?_
            refine z_iload_n h dX1_isDrawnCry_39 rfl ?_
            refine z_cVi2 h dX1_isDrawnCry_40 lX1_132 vX1_isDrawn rfl L5 (c_X1_isDrawn σ k t (by omega) ht hz) rfl (Nat.le_of_ble_eq_true rfl) (by decide) (fun v σ1 h5 => ?_)
            obtain ⟨rfl, rfl⟩ := h5
            rw [hd]
            refine z_if_eq h dX1_isDrawnCry_43 (by decide) (fun b43 => ?_) (fun b43 => by exfalso; exact b43 rfl)
            refine z_iinc h dX1_isDrawnCry_48 (by decide) rfl (zst1_2 rfl) ?_
            refine z_iinc h dX1_isDrawnCry_51 (by decide) rfl (zst1_3 rfl) ?_
            refine z_goto h dX1_isDrawnCry_54 ?_
            rw [g4]
            exact ih (i + 1) (k + 1) (by omega) (by omega) h3
          · rw [hd, Bool.true_or] at h3
            refine z_iload_n h dX1_isDrawnCry_4 rfl ?_
            refine z_raload_n h dX1_isDrawnCry_5 rfl ?_
            refine y_getd 6 h dX1_isDrawnCry_6 fX1_34 L5 rfl rfl hpl ?_
            refine y_get 5 h dX1_isDrawnCry_9 fX1_59 (zPl_o hp) rfl rfl ?_
            refine z_icmp_ge h dX1_isDrawnCry_12 (by omega) (by omega) (fun b12 => by exfalso; omega) (fun b12 => ?_)
            refine z_raload_n h dX1_isDrawnCry_15 rfl ?_
            refine y_getd 6 h dX1_isDrawnCry_16 fX1_34 L5 rfl rfl hpl ?_
            refine z_getr h dX1_isDrawnCry_19 fX1_129 (zPl_o hp) rfl ?_
            refine z_iload_n h dX1_isDrawnCry_22 rfl ?_
            refine z_iald h dX1_isDrawnCry_23 (zPl_2 hp) (by decide) (by omega) ?_
            refine z_iconst h dX1_isDrawnCry_24 ?_
            refine z_icmp_ne h dX1_isDrawnCry_25 (by omega) (by omega) (fun b25 => by exfalso; omega) (fun b25 => ?_)
            refine z_raload_n h dX1_isDrawnCry_28 rfl ?_
            refine z_getr h dX1_isDrawnCry_29 fX1_18 L5 rfl ?_
            refine z_iload_n h dX1_isDrawnCry_32 rfl ?_
            refine z_zald h dX1_isDrawnCry_33 L8 (by decide) (by omega) ?_
            refine z_if_eq h dX1_isDrawnCry_34 (by omega) (fun b34 => by exfalso; omega) (fun b34 => ?_)
            refine z_raload_n h dX1_isDrawnCry_37 rfl ?_
            refine z_iload_n h dX1_isDrawnCry_38 rfl ?_
            refine z_iload_n h dX1_isDrawnCry_39 rfl ?_
            refine z_cVi2 h dX1_isDrawnCry_40 lX1_132 vX1_isDrawn rfl L5 (c_X1_isDrawn σ k t (by omega) ht hz) rfl (Nat.le_of_ble_eq_true rfl) (by decide) (fun v σ1 h5 => ?_)
            obtain ⟨rfl, rfl⟩ := h5
            rw [hd]
            refine z_if_eq h dX1_isDrawnCry_43 (by decide) (fun b43 => by exfalso; exact absurd b43 (by decide)) (fun b43 => ?_)
            refine z_iconst h dX1_isDrawnCry_46 ?_
            refine z_irZ h hr dX1_isDrawnCry_47 (by first | decide | omega | simp_all) ?_
            rw [h3]
            exact ⟨rfl, rfl⟩
        · rw [if_neg hm] at g3
          rw [decide_eq_false hm, Bool.false_and, Bool.false_or] at h3
          refine z_iload_n h dX1_isDrawnCry_4 rfl ?_
          refine z_raload_n h dX1_isDrawnCry_5 rfl ?_
          refine y_getd 6 h dX1_isDrawnCry_6 fX1_34 L5 rfl rfl hpl ?_
          refine y_get 5 h dX1_isDrawnCry_9 fX1_59 (zPl_o hp) rfl rfl ?_
          refine z_icmp_ge h dX1_isDrawnCry_12 (by omega) (by omega) (fun b12 => by exfalso; omega) (fun b12 => ?_)
          refine z_raload_n h dX1_isDrawnCry_15 rfl ?_
          refine y_getd 6 h dX1_isDrawnCry_16 fX1_34 L5 rfl rfl hpl ?_
          refine z_getr h dX1_isDrawnCry_19 fX1_129 (zPl_o hp) rfl ?_
          refine z_iload_n h dX1_isDrawnCry_22 rfl ?_
          refine z_iald h dX1_isDrawnCry_23 (zPl_2 hp) (by decide) (by omega) ?_
          refine z_iconst h dX1_isDrawnCry_24 ?_
          refine z_icmp_ne h dX1_isDrawnCry_25 (by omega) (by omega) (fun b25 => by exfalso; omega) (fun b25 => ?_)
          refine z_raload_n h dX1_isDrawnCry_28 rfl ?_
          refine z_getr h dX1_isDrawnCry_29 fX1_18 L5 rfl ?_
          refine z_iload_n h dX1_isDrawnCry_32 rfl ?_
          refine z_zald h dX1_isDrawnCry_33 L8 (by decide) (by omega) ?_
          refine z_if_eq h dX1_isDrawnCry_34 (by omega) (fun b34 => ?_) (fun b34 => by exfalso; omega)
          refine z_iinc h dX1_isDrawnCry_48 (by decide) rfl (zst1_2 rfl) ?_
          refine z_iinc h dX1_isDrawnCry_51 (by decide) rfl (zst1_3 rfl) ?_
          refine z_goto h dX1_isDrawnCry_54 ?_
          rw [g4]
          exact ih (i + 1) (k + 1) (by omega) (by omega) h3
      · rw [if_neg hk] at h3
        refine z_iload_n h dX1_isDrawnCry_4 rfl ?_
        refine z_raload_n h dX1_isDrawnCry_5 rfl ?_
        refine y_getd 6 h dX1_isDrawnCry_6 fX1_34 L5 rfl rfl hpl ?_
        refine y_get 5 h dX1_isDrawnCry_9 fX1_59 (zPl_o hp) rfl rfl ?_
        refine z_icmp_ge h dX1_isDrawnCry_12 (by omega) (by omega) (fun b12 => by exfalso; omega) (fun b12 => ?_)
        refine z_raload_n h dX1_isDrawnCry_15 rfl ?_
        refine y_getd 6 h dX1_isDrawnCry_16 fX1_34 L5 rfl rfl hpl ?_
        refine z_getr h dX1_isDrawnCry_19 fX1_129 (zPl_o hp) rfl ?_
        refine z_iload_n h dX1_isDrawnCry_22 rfl ?_
        refine z_iald h dX1_isDrawnCry_23 (zPl_2 hp) (by decide) (by omega) ?_
        refine z_iconst h dX1_isDrawnCry_24 ?_
        refine z_icmp_ne h dX1_isDrawnCry_25 (by omega) (by omega) (fun b25 => ?_) (fun b25 => by exfalso; omega)
        refine z_iinc h dX1_isDrawnCry_51 (by decide) rfl (zst1_3 rfl) ?_
        refine z_goto h dX1_isDrawnCry_54 ?_
        rw [g4]
        exact ih (i + 1) k (by omega) (by omega) h3
  refine z_iconst h dX1_isDrawnCry_0 ?_
  refine z_ist1_n h dX1_isDrawnCry_1 (by decide) (zst1_2 rfl) ?_
  refine z_iconst h dX1_isDrawnCry_2 ?_
  refine z_ist1_n h dX1_isDrawnCry_3 (by decide) (zst1_3 rfl) ?_
  exact L P.1.length 0 0 (by omega) (by omega) rfl
def uB (how whn : Int → Int) (l e : Int) : Int := if how l = 0 ∧ how e = 0 ∧ whn l < whn e then 1 else 0
theorem uB_rg (how whn : Int → Int) (l e : Int) : 0 ≤ uB how whn l e ∧ uB how whn l e ≤ 1 := by unfold uB; split <;> omega
theorem zsum_rg {f : Nat → Int} {m : Int} (hm : 0 ≤ m) (h : ∀ k, 0 ≤ f k ∧ f k ≤ m) : ∀ n : Nat, 0 ≤ zsum f n ∧ zsum f n ≤ n * m
  | 0 => by simp [zsum]
  | n + 1 => by
    have h1 := zsum_rg hm h n
    have h2 := h n
    unfold zsum
    rw [show ((n + 1 : Nat) : Int) * m = n * m + m by rw [Int.natCast_add, Int.add_mul]; simp]
    omega
def zo (P : zP) (k : Nat) : Int := ((zod P.1).getD k (0, 0)).2
def uC (P : zP) (how whn : Int → Int) : Int := zsum (fun b => zsum (fun a => uB how whn (zo P b) (zo P a)) b) P.1.length
theorem c_X1_unfair (σ : zM) (π : Nat) (hp : zPl π) (hpl : σ 5 6 = π) (P : zP) (hP : cPlan σ π P) (how whn : Int → Int) (hE : cEnd σ how whn) : zCi mX1_unfair (fun w => [zr w 5]) σ (fun r σ' => r = uC P how whn ∧ σ' = σ) := by
  refine zCi_mk (own := RX1) rfl (by decide +kernel) (fun w => [some (zr w 5), none, none, none, none, none]) (fun _ => rfl) (fun _ => Nat.le_of_ble_eq_true rfl) ?_
  intro Γ h hr
  have q1 := hP.1
  have np10 := hP.2.2.2.2.2.1
  have zl := zod_len P.1
  have hzo : ∀ k : Nat, k < P.1.length → σ (π + 4) k = zo P k ∧ 0 ≤ zo P k ∧ zo P k < 10 := by
    intro k hk
    have hlt : k < (zod P.1).length := by omega
    have hx := List.getElem?_eq_getElem hlt
    have e : zo P k = (zod P.1)[k].2 := by unfold zo; rw [List.getD_eq_getElem?_getD, hx]; rfl
    obtain ⟨g1, p, g2, g3⟩ := zod_mem P.1 _ (List.mem_of_getElem? hx)
    have g4 := (List.getElem?_eq_some_iff.mp g2).1
    rw [e]
    exact ⟨hP.2.2.1 k _ hx, g1, by omega⟩
  have rgI : ∀ b a : Nat, b ≤ 10 → a ≤ 10 → 0 ≤ zsum (fun a => uB how whn (zo P b) (zo P a)) a ∧ zsum (fun a => uB how whn (zo P b) (zo P a)) a ≤ 10 := by
    intro b a hb ha
    have := zsum_rg (f := fun a => uB how whn (zo P b) (zo P a)) (m := 1) (by omega) (fun k => uB_rg how whn _ _) a
    omega
  have rgO : ∀ n : Nat, n ≤ 10 → 0 ≤ zsum (fun b => zsum (fun a => uB how whn (zo P b) (zo P a)) b) n ∧ zsum (fun b => zsum (fun a => uB how whn (zo P b) (zo P a)) b) n ≤ n * 10 := by
    intro n
    induction n with
    | zero => intro _; simp [zsum]
    | succ n ih =>
      intro hn
      have h1 := ih (by omega)
      have h2 := rgI n n (by omega) (by omega)
      unfold zsum
      omega
  have L1 : ∀ (n b : Nat) (l3 l4 l5 : Option Value), zc1 l3 = true → b + n = P.1.length → zV Γ σ 4 [some (zr (zw Γ) 5), some (zi (zsum (fun b => zsum (fun a => uB how whn (zo P b) (zo P a)) b) b)), some (zi b), l3, l4, l5] [] := by
    intro n
    induction n with
    | zero =>
      intro b l3 l4 l5 hl3 h1
      refine z_iload_n h dX1_unfair_4 rfl ?_
      refine z_raload_n h dX1_unfair_5 rfl ?_
      refine y_getd 6 h dX1_unfair_6 fX1_34 L5 rfl rfl hpl ?_
      refine y_get 5 h dX1_unfair_9 fX1_59 (zPl_o hp) rfl rfl ?_
      refine z_icmp_ge h dX1_unfair_12 (by omega) (by omega) (fun b12 => ?_) (fun b12 => by exfalso; omega)
      refine z_iload_n h dX1_unfair_96 rfl ?_
      refine z_irI h hr dX1_unfair_97 ?_
      rw [show b = P.1.length by omega]
      exact ⟨rfl, rfl⟩
    | succ n ih =>
      intro b l3 l4 l5 hl3 h1
      have o1 := hzo b (by omega)
      have w1 := hE (zo P b) o1.2.1 o1.2.2
      have s0 := rgO b (by omega)
      have L2 : ∀ (m a : Nat) (l5 : Option Value), a + m = b → zV Γ σ 28 [some (zr (zw Γ) 5), some (zi (zsum (fun b => zsum (fun a => uB how whn (zo P b) (zo P a)) b) b + zsum (fun a => uB how whn (zo P b) (zo P a)) a)), some (zi b), some (zi (zo P b)), some (zi a), l5] [] := by
        intro m
        induction m with
        | zero =>
          intro a l5 h2
          have e : a = b := by omega
          subst e
          refine z_iload h dX1_unfair_28 rfl ?_
          refine z_iload_n h dX1_unfair_30 rfl ?_
          refine z_icmp_ge h dX1_unfair_31 (by omega) (by omega) (fun b31 => ?_) (fun b31 => by exfalso; omega)
          refine z_iinc h dX1_unfair_90 (by decide) rfl (zst1_2 rfl) ?_
          refine z_goto h dX1_unfair_93 ?_
          exact ih (a + 1) _ _ _ rfl (by omega)
        | succ m ih2 =>
          intro a l5 h2
          have o2 := hzo a (by omega)
          have w2 := hE (zo P a) o2.2.1 o2.2.2
          have hs : zsum (fun a => uB how whn (zo P b) (zo P a)) (a + 1) = zsum (fun a => uB how whn (zo P b) (zo P a)) a + uB how whn (zo P b) (zo P a) := rfl
          refine z_iload h dX1_unfair_28 rfl ?_
          refine z_iload_n h dX1_unfair_30 rfl ?_
          refine z_icmp_ge h dX1_unfair_31 (by omega) (by omega) (fun b31 => by exfalso; omega) (fun b31 => ?_)
          refine z_raload_n h dX1_unfair_34 rfl ?_
          refine y_getd 6 h dX1_unfair_35 fX1_34 L5 rfl rfl hpl ?_
          refine z_getr h dX1_unfair_38 fX1_149 (zPl_o hp) rfl ?_
          refine z_iload h dX1_unfair_41 rfl ?_
          refine z_iald h dX1_unfair_43 (zPl_4 hp) (by decide) (by omega) ?_
          rw [o2.1]
          refine z_ist1 h dX1_unfair_44 (by decide) (zst1_5 rfl) ?_
          refine z_raload_n h dX1_unfair_46 rfl ?_
          refine z_getr h dX1_unfair_47 fX1_9 L5 rfl ?_
          refine z_iload_n h dX1_unfair_50 rfl ?_
          refine z_iald h dX1_unfair_51 L6 (by decide) (by omega) ?_
          refine z_if_ne h dX1_unfair_52 (by omega) (fun b52 => ?_) (fun b52 => ?_)
          · refine z_iinc h dX1_unfair_84 (by decide) rfl (zst1_4 rfl) ?_
            refine z_goto h dX1_unfair_87 ?_
            have := ih2 (a + 1) (some (zi (zo P a))) (by omega)
            rw [hs] at this
            first | (rw [show uB how whn (zo P b) (zo P a) = 0 by unfold uB; exact if_neg (by omega), Int.add_zero] at this; exact this) | (rw [show uB how whn (zo P b) (zo P a) = 1 by unfold uB; exact if_pos (by omega), ← Int.add_assoc] at this; exact this)
          · refine z_raload_n h dX1_unfair_55 rfl ?_
            refine z_getr h dX1_unfair_56 fX1_9 L5 rfl ?_
            refine z_iload h dX1_unfair_59 rfl ?_
            refine z_iald h dX1_unfair_61 L6 (by decide) (by omega) ?_
            refine z_if_ne h dX1_unfair_62 (by omega) (fun b62 => ?_) (fun b62 => ?_)
            · refine z_iinc h dX1_unfair_84 (by decide) rfl (zst1_4 rfl) ?_
              refine z_goto h dX1_unfair_87 ?_
              have := ih2 (a + 1) (some (zi (zo P a))) (by omega)
              rw [hs] at this
              first | (rw [show uB how whn (zo P b) (zo P a) = 0 by unfold uB; exact if_neg (by omega), Int.add_zero] at this; exact this) | (rw [show uB how whn (zo P b) (zo P a) = 1 by unfold uB; exact if_pos (by omega), ← Int.add_assoc] at this; exact this)
            · refine z_raload_n h dX1_unfair_65 rfl ?_
              refine z_getr h dX1_unfair_66 fX1_15 L5 rfl ?_
              refine z_iload_n h dX1_unfair_69 rfl ?_
              refine z_iald h dX1_unfair_70 L7 (by decide) (by omega) ?_
              refine z_raload_n h dX1_unfair_71 rfl ?_
              refine z_getr h dX1_unfair_72 fX1_15 L5 rfl ?_
              refine z_iload h dX1_unfair_75 rfl ?_
              refine z_iald h dX1_unfair_77 L7 (by decide) (by omega) ?_
              refine z_icmp_ge h dX1_unfair_78 (by omega) (by omega) (fun b78 => ?_) (fun b78 => ?_)
              · refine z_iinc h dX1_unfair_84 (by decide) rfl (zst1_4 rfl) ?_
                refine z_goto h dX1_unfair_87 ?_
                have := ih2 (a + 1) (some (zi (zo P a))) (by omega)
                rw [hs] at this
                first | (rw [show uB how whn (zo P b) (zo P a) = 0 by unfold uB; exact if_neg (by omega), Int.add_zero] at this; exact this) | (rw [show uB how whn (zo P b) (zo P a) = 1 by unfold uB; exact if_pos (by omega), ← Int.add_assoc] at this; exact this)
              · refine z_iinc h dX1_unfair_81 (by decide) rfl (zst1_1 rfl) ?_
                refine z_iinc h dX1_unfair_84 (by decide) rfl (zst1_4 rfl) ?_
                refine z_goto h dX1_unfair_87 ?_
                have := ih2 (a + 1) (some (zi (zo P a))) (by omega)
                rw [hs] at this
                first | (rw [show uB how whn (zo P b) (zo P a) = 0 by unfold uB; exact if_neg (by omega), Int.add_zero] at this; exact this) | (rw [show uB how whn (zo P b) (zo P a) = 1 by unfold uB; exact if_pos (by omega), ← Int.add_assoc] at this; exact this)
      refine z_iload_n h dX1_unfair_4 rfl ?_
      refine z_raload_n h dX1_unfair_5 rfl ?_
      refine y_getd 6 h dX1_unfair_6 fX1_34 L5 rfl rfl hpl ?_
      refine y_get 5 h dX1_unfair_9 fX1_59 (zPl_o hp) rfl rfl ?_
      refine z_icmp_ge h dX1_unfair_12 (by omega) (by omega) (fun b12 => by exfalso; omega) (fun b12 => ?_)
      refine z_raload_n h dX1_unfair_15 rfl ?_
      refine y_getd 6 h dX1_unfair_16 fX1_34 L5 rfl rfl hpl ?_
      refine z_getr h dX1_unfair_19 fX1_149 (zPl_o hp) rfl ?_
      refine z_iload_n h dX1_unfair_22 rfl ?_
      refine z_iald h dX1_unfair_23 (zPl_4 hp) (by decide) (by omega) ?_
      rw [o1.1]
      refine z_ist1_n h dX1_unfair_24 (by decide) (zst1_3 rfl) ?_
      refine z_iconst h dX1_unfair_25 ?_
      refine z_ist1 h dX1_unfair_26 (by decide) (zst1_4 rfl) ?_
      have := L2 b 0 l5 (by omega)
      rw [show zsum (fun a => uB how whn (zo P b) (zo P a)) 0 = 0 from rfl, Int.add_zero] at this
      exact this
  refine z_iconst h dX1_unfair_0 ?_
  refine z_ist1_n h dX1_unfair_1 (by decide) (zst1_1 rfl) ?_
  refine z_iconst h dX1_unfair_2 ?_
  refine z_ist1_n h dX1_unfair_3 (by decide) (zst1_2 rfl) ?_
  exact L1 P.1.length 0 none none none rfl (by omega)
theorem c_X1_asTold (σ : zM) (π : Nat) (hp : zPl π) : zCv mX1_asTold (fun w => [zr w 5, zr w π]) σ (fun σ' => (∀ c, c ≠ 5 → c ≠ 10 → c ≠ 11 → ∀ i, σ' c i = σ c i) ∧ (σ' 5 6 = π ∧ σ' 5 7 = σ π 10 ∧ σ' 5 8 = 0 ∧ σ' 5 9 = -1) ∧ σ' 10 0 = 0 ∧ σ' 10 1 = 0 ∧ σ' 11 0 = -1 ∧ σ' 11 1 = -1) := by
  refine zCv_mk (own := RX1) rfl (by decide +kernel) (fun w => [some (zr w 5), some (zr w π), none]) (fun _ => rfl) (fun _ => Nat.le_of_ble_eq_true rfl) ?_
  intro Γ h hr
  have hpi : 39 ≤ π := by unfold zPl at hp; omega
  have E : ∀ σ1 : zM, (∀ c, c ≠ 5 → c ≠ 10 → c ≠ 11 → ∀ i, σ1 c i = σ c i) → (σ1 5 6 = π ∧ σ1 5 7 = σ π 10 ∧ σ1 5 8 = 0 ∧ σ1 5 9 = -1) → σ1 10 0 = 0 → σ1 10 1 = 0 → σ1 11 0 = -1 → σ1 11 1 = -1 → zV Γ σ1 25 [some (zr (zw Γ) 5), some (zr (zw Γ) π), some (zi 2)] [] := by
    intro σ1 h1 h2 h3 h4 h5 h6
    refine z_iload_n h dX1_asTold_25 rfl ?_
    refine z_iconst h dX1_asTold_26 ?_
    refine z_icmp_ge h dX1_asTold_27 (by omega) (by omega) (fun b27 => ?_) (fun b27 => by exfalso; omega)
    refine z_irV h hr dX1_asTold_50 ?_
    exact ⟨h1, h2, h3, h4, h5, h6⟩
  have L1 : ∀ σ1 : zM, (∀ c, c ≠ 5 → c ≠ 10 → c ≠ 11 → ∀ i, σ1 c i = σ c i) → (σ1 5 6 = π ∧ σ1 5 7 = σ π 10 ∧ σ1 5 8 = 0 ∧ σ1 5 9 = -1) → σ1 10 0 = 0 → σ1 11 0 = -1 → zV Γ σ1 25 [some (zr (zw Γ) 5), some (zr (zw Γ) π), some (zi 1)] [] := by
    intro σ1 h1 h2 h3 h4
    refine z_iload_n h dX1_asTold_25 rfl ?_
    refine z_iconst h dX1_asTold_26 ?_
    refine z_icmp_ge h dX1_asTold_27 (by omega) (by omega) (fun b27 => by exfalso; omega) (fun b27 => ?_)
    refine z_raload_n h dX1_asTold_30 rfl ?_
    refine z_getr h dX1_asTold_31 fX1_25 L5 rfl ?_
    refine z_iload_n h dX1_asTold_34 rfl ?_
    refine z_iconst h dX1_asTold_35 ?_
    refine z_iast h dX1_asTold_36 L10 (by decide) (by omega) ?_
    refine z_raload_n h dX1_asTold_37 rfl ?_
    refine z_getr h dX1_asTold_38 fX1_28 L5 rfl ?_
    refine z_iload_n h dX1_asTold_41 rfl ?_
    refine z_iconst h dX1_asTold_42 ?_
    refine z_iast h dX1_asTold_43 L11 (by decide) (by omega) ?_
    refine z_iinc h dX1_asTold_44 (by decide) rfl (zst1_2 rfl) ?_
    refine z_goto h dX1_asTold_47 ?_
    refine E _ (fun c a b d i => ?_) ⟨?_, ?_, ?_, ?_⟩ ?_ ?_ ?_ ?_
    · simp (disch := omega) only [zup_ne]; exact h1 c a b d i
    · simp (disch := omega) only [zup_ne]; exact h2.1
    · simp (disch := omega) only [zup_ne]; exact h2.2.1
    · simp (disch := omega) only [zup_ne]; exact h2.2.2.1
    · simp (disch := omega) only [zup_ne]; exact h2.2.2.2
    · simp (disch := omega) only [zup_ne, zup_nei]; exact h3
    · simp (disch := omega) only [zup_ne, zup_eq]
    · simp (disch := omega) only [zup_ne, zup_nei]; exact h4
    · simp (disch := omega) only [zup_eq]
  have L0 : ∀ σ1 : zM, (∀ c, c ≠ 5 → c ≠ 10 → c ≠ 11 → ∀ i, σ1 c i = σ c i) → (σ1 5 6 = π ∧ σ1 5 7 = σ π 10 ∧ σ1 5 8 = 0 ∧ σ1 5 9 = -1) → zV Γ σ1 25 [some (zr (zw Γ) 5), some (zr (zw Γ) π), some (zi 0)] [] := by
    intro σ1 h1 h2
    refine z_iload_n h dX1_asTold_25 rfl ?_
    refine z_iconst h dX1_asTold_26 ?_
    refine z_icmp_ge h dX1_asTold_27 (by omega) (by omega) (fun b27 => by exfalso; omega) (fun b27 => ?_)
    refine z_raload_n h dX1_asTold_30 rfl ?_
    refine z_getr h dX1_asTold_31 fX1_25 L5 rfl ?_
    refine z_iload_n h dX1_asTold_34 rfl ?_
    refine z_iconst h dX1_asTold_35 ?_
    refine z_iast h dX1_asTold_36 L10 (by decide) (by omega) ?_
    refine z_raload_n h dX1_asTold_37 rfl ?_
    refine z_getr h dX1_asTold_38 fX1_28 L5 rfl ?_
    refine z_iload_n h dX1_asTold_41 rfl ?_
    refine z_iconst h dX1_asTold_42 ?_
    refine z_iast h dX1_asTold_43 L11 (by decide) (by omega) ?_
    refine z_iinc h dX1_asTold_44 (by decide) rfl (zst1_2 rfl) ?_
    refine z_goto h dX1_asTold_47 ?_
    refine L1 _ (fun c a b d i => ?_) ⟨?_, ?_, ?_, ?_⟩ ?_ ?_
    · simp (disch := omega) only [zup_ne]; exact h1 c a b d i
    · simp (disch := omega) only [zup_ne]; exact h2.1
    · simp (disch := omega) only [zup_ne]; exact h2.2.1
    · simp (disch := omega) only [zup_ne]; exact h2.2.2.1
    · simp (disch := omega) only [zup_ne]; exact h2.2.2.2
    · simp (disch := omega) only [zup_ne, zup_eq]
    · simp (disch := omega) only [zup_eq]
  refine z_raload_n h dX1_asTold_0 rfl ?_
  refine z_raload_n h dX1_asTold_1 rfl ?_
  refine y_putd 6 h dX1_asTold_2 fX1_34 pX1_6 L5 rfl rfl (fun _ => rfl) (fun _ => rfl) ?_
  refine z_raload_n h dX1_asTold_5 rfl ?_
  refine z_raload_n h dX1_asTold_6 rfl ?_
  refine y_get 10 h dX1_asTold_7 fX1_38 (zPl_o hp) rfl rfl ?_
  try simp (disch := omega) only [zup_eq, zup_ne, zup_nei]
  refine y_put 7 h dX1_asTold_10 fX1_42 pX1_7 L5 rfl rfl ?_
  refine z_raload_n h dX1_asTold_13 rfl ?_
  refine z_iconst h dX1_asTold_14 ?_
  refine y_put 8 h dX1_asTold_15 fX1_43 pX1_8 L5 rfl rfl ?_
  refine z_raload_n h dX1_asTold_18 rfl ?_
  refine z_iconst h dX1_asTold_19 ?_
  refine y_put 9 h dX1_asTold_20 fX1_46 pX1_9 L5 rfl rfl ?_
  refine z_iconst h dX1_asTold_23 ?_
  refine z_ist1_n h dX1_asTold_24 (by decide) (zst1_2 rfl) ?_
  refine L0 _ (fun c a b d i => ?_) ⟨?_, ?_, ?_, ?_⟩
  · simp (disch := omega) only [zup_ne]
  · simp (disch := omega) only [zup_nei, zup_eq]
  · simp (disch := omega) only [zup_nei, zup_eq]
  · simp (disch := omega) only [zup_nei, zup_eq]
  · simp (disch := omega) only [zup_nei, zup_eq]
theorem c_X1_addExtra (σ : zM) (π : Nat) (hp : zPl π) (hpl : σ 5 6 = π) (P : zP) (hP : cPlan σ π P) (e i m : Int) (he : e = 0 ∨ e = 1) (hi : 0 ≤ i ∧ i < P.1.length) : zCv mX1_addExtra (fun w => [zr w 5, zi e, zi i, zi m]) σ (fun σ' => σ' = zup (zup σ 10 e i) 11 e m) := by
  refine zCv_mk (own := RX1) rfl (by decide +kernel) (fun w => [some (zr w 5), some (zi e), some (zi i), some (zi m)]) (fun _ => rfl) (fun _ => Nat.le_of_ble_eq_true rfl) ?_
  intro Γ h hr
  have q1 := hP.1
  have np10 := hP.2.2.2.2.2.1
  refine z_iload_n h dX1_addExtra_0 rfl ?_
  refine z_if_lt h dX1_addExtra_1 (by omega) (fun b1 => by exfalso; omega) (fun b1 => ?_)
  refine z_iload_n h dX1_addExtra_4 rfl ?_
  refine z_iconst h dX1_addExtra_5 ?_
  refine z_icmp_ge h dX1_addExtra_6 (by omega) (by omega) (fun b6 => by exfalso; omega) (fun b6 => ?_)
  refine z_raload_n h dX1_addExtra_9 rfl ?_
  refine y_getd 6 h dX1_addExtra_10 fX1_34 L5 rfl rfl hpl ?_
  refine z_iload_n h dX1_addExtra_13 rfl ?_
  refine z_cVi1 h dX1_addExtra_14 lX1_49 vX4_isTold rfl (zPl_o hp) (c_X4_isTold σ π hp i (by omega) (by omega)) rfl (Nat.le_of_ble_eq_true rfl) (by decide) (fun v σ1 h1 => ?_)
  obtain ⟨rfl, rfl⟩ := h1
  rw [if_pos (by omega)]
  refine z_if_eq h dX1_addExtra_17 (by omega) (fun b17 => by exfalso; omega) (fun b17 => ?_)
  refine z_raload_n h dX1_addExtra_20 rfl ?_
  refine z_getr h dX1_addExtra_21 fX1_25 L5 rfl ?_
  refine z_iload_n h dX1_addExtra_24 rfl ?_
  refine z_iload_n h dX1_addExtra_25 rfl ?_
  refine z_iast h dX1_addExtra_26 L10 (by decide) (by omega) ?_
  refine z_raload_n h dX1_addExtra_27 rfl ?_
  refine z_getr h dX1_addExtra_28 fX1_28 L5 rfl ?_
  refine z_iload_n h dX1_addExtra_31 rfl ?_
  refine z_iload_n h dX1_addExtra_32 rfl ?_
  refine z_iast h dX1_addExtra_33 L11 (by decide) (by omega) ?_
  refine z_irV h hr dX1_addExtra_34 ?_
  rfl
