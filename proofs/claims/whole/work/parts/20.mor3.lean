/-- who comes at t, out of those who are still to come -/
def zCm (law t : Int) : List (Int × Int) → List Int → List Int
  | [], line => line
  | x :: r, line => if x.1 = t then zCm law t r (zJoin law line x.2) else line
theorem c_X1_letCome (σ : zM) (π : Nat) (hp : zPl π) (hpl : σ 5 6 = π) (P : zP) (hP : cPlan σ π P) (line : List Int) (t law : Int) (c : Nat) (ht : 0 ≤ t ∧ t < 200) (hlaw : σ 5 7 = law ∧ 0 ≤ law ∧ law ≤ 3) (hR : cRow σ line P.1.length) (hc : σ 5 11 = c) (hcl : c ≤ P.1.length) (hll : line.length ≤ c) (hnd : (line ++ ((zod P.1).drop c).map (fun x => x.2)).Nodup) : zCv mX1_letCome (fun w => [zr w 5, zi t]) σ (fun σ' => (∀ c, c ≠ 5 → c ≠ 8 → c ≠ 9 → ∀ j, σ' c j = σ c j) ∧ (∀ j : Int, j ≠ 10 → j ≠ 11 → σ' 5 j = σ 5 j) ∧ cRow σ' (zCm law t ((zod P.1).drop c) line) P.1.length ∧ ∃ c' : Nat, σ' 5 11 = c' ∧ c' ≤ P.1.length ∧ (zod P.1).drop c' = ((zod P.1).drop c).dropWhile (fun x => decide (x.1 = t)) ∧ (c' : Int) - (zCm law t ((zod P.1).drop c) line).length = (c : Int) - line.length) := by
  refine zCv_mk (own := RX1) rfl (by decide +kernel) (fun w => [some (zr w 5), some (zi t)]) (fun _ => rfl) (fun _ => Nat.le_of_ble_eq_true rfl) ?_
  intro Γ h hr
  have hpi : 39 ≤ π := by unfold zPl at hp; omega
  have np10 := hP.2.2.2.2.2.1
  have zl := zod_len P.1
  have L : ∀ (n c1 : Nat) (σ1 : zM) (line1 : List Int), c1 + n = P.1.length → (∀ c, c ≠ 5 → c ≠ 8 → c ≠ 9 → ∀ j, σ1 c j = σ c j) → (∀ j : Int, j ≠ 10 → j ≠ 11 → σ1 5 j = σ 5 j) → σ1 5 11 = c1 → line1.length ≤ c1 → cRow σ1 line1 P.1.length → (line1 ++ ((zod P.1).drop c1).map (fun x => x.2)).Nodup → (c1 : Int) - line1.length = (c : Int) - line.length → zCm law t ((zod P.1).drop c) line = zCm law t ((zod P.1).drop c1) line1 → ((zod P.1).drop c1).dropWhile (fun x => decide (x.1 = t)) = ((zod P.1).drop c).dropWhile (fun x => decide (x.1 = t)) → zV Γ σ1 0 [some (zr (zw Γ) 5), some (zi t)] [] := by
    intro n
    induction n with
    | zero =>
      intro c1 σ1 line1 h1 h2 h3 h4 h5 h6 h7 h8 h9 h10
      have e6 := h3 6 (by omega) (by omega)
      have hP1 : cPlan σ1 π P := cPlan_fr hP (fun c a b i => h2 c (by omega) (by omega) (by omega) i)
      have q1 := hP1.1
      have ed : (zod P.1).drop c1 = [] := List.drop_eq_nil_of_le (by omega)
      refine z_raload_n h dX1_letCome_0 rfl ?_
      refine y_get 11 h dX1_letCome_1 fX1_96 L5 rfl rfl ?_
      refine z_raload_n h dX1_letCome_4 rfl ?_
      refine y_getd 6 h dX1_letCome_5 fX1_34 L5 rfl rfl (by rw [e6]; exact hpl) ?_
      refine y_get 5 h dX1_letCome_8 fX1_59 (zPl_o hp) rfl rfl ?_
      refine z_icmp_ge h dX1_letCome_11 (by omega) (by omega) (fun b11 => ?_) (fun b11 => by exfalso; omega)
      refine z_irV h hr dX1_letCome_67 ?_
      rw [ed] at h9 h10
      have h9 : zCm law t ((zod P.1).drop c) line = line1 := h9
      rw [h9]
      exact ⟨h2, h3, h6, c1, h4, by omega, by rw [ed, ← h10]; rfl, h8⟩
    | succ n ih =>
      intro c1 σ1 line1 h1 h2 h3 h4 h5 h6 h7 h8 h9 h10
      have e6 := h3 6 (by omega) (by omega)
      have hP1 : cPlan σ1 π P := cPlan_fr hP (fun c a b i => h2 c (by omega) (by omega) (by omega) i)
      have q1 := hP1.1
      have hlt : c1 < (zod P.1).length := by omega
      have hx := List.getElem?_eq_getElem hlt
      obtain ⟨x, hxe⟩ : ∃ x, x = (zod P.1)[c1] := ⟨_, rfl⟩
      rw [← hxe] at hx
      have ed : (zod P.1).drop c1 = x :: (zod P.1).drop (c1 + 1) := by rw [hxe]; exact List.drop_eq_getElem_cons hlt
      obtain ⟨g1, p, g2, g3⟩ := zod_mem P.1 x (List.mem_of_getElem? hx)
      have g4 := (List.getElem?_eq_some_iff.mp g2).1
      have g5 := hP1.2.1 _ p g2
      rw [Int.toNat_of_nonneg g1] at g5
      have g6 := hP1.2.2.1 c1 x hx
      rw [← h4] at g6
      have g7 := hP1.2.2.2.2.2.2.1 p (List.mem_of_getElem? g2)
      rw [ed] at h9 h7 h10
      by_cases hxt : x.1 = t
      · have h9 : zCm law t ((zod P.1).drop c) line = zCm law t ((zod P.1).drop (c1 + 1)) (zJoin law line1 x.2) := by rw [h9, zCm, if_pos hxt]
        have h10 : ((zod P.1).drop (c1 + 1)).dropWhile (fun x => decide (x.1 = t)) = ((zod P.1).drop c).dropWhile (fun x => decide (x.1 = t)) := by rw [← h10, List.dropWhile_cons, if_pos (by simpa using hxt)]
        have hjp := zJoin_perm law line1 x.2
        have hxn : x.2 ∉ line1 := by
          intro z
          have := (List.nodup_append.mp h7).2.2 x.2 z x.2 (by simp)
          exact this rfl
        refine z_raload_n h dX1_letCome_0 rfl ?_
        refine y_get 11 h dX1_letCome_1 fX1_96 L5 rfl rfl ?_
        refine z_raload_n h dX1_letCome_4 rfl ?_
        refine y_getd 6 h dX1_letCome_5 fX1_34 L5 rfl rfl (by rw [e6]; exact hpl) ?_
        refine y_get 5 h dX1_letCome_8 fX1_59 (zPl_o hp) rfl rfl ?_
        refine z_icmp_ge h dX1_letCome_11 (by omega) (by omega) (fun b11 => by exfalso; omega) (fun b11 => ?_)
        refine z_raload_n h dX1_letCome_14 rfl ?_
        refine y_getd 6 h dX1_letCome_15 fX1_34 L5 rfl rfl (by rw [e6]; exact hpl) ?_
        refine z_getr h dX1_letCome_18 fX1_106 (zPl_o hp) rfl ?_
        refine z_raload_n h dX1_letCome_21 rfl ?_
        refine y_getd 6 h dX1_letCome_22 fX1_34 L5 rfl rfl (by rw [e6]; exact hpl) ?_
        refine z_getr h dX1_letCome_25 fX1_149 (zPl_o hp) rfl ?_
        refine z_raload_n h dX1_letCome_28 rfl ?_
        refine y_get 11 h dX1_letCome_29 fX1_96 L5 rfl rfl ?_
        refine z_iald h dX1_letCome_32 (zPl_4 hp) (by decide) (by omega) ?_
        rw [g6]
        refine z_iald h dX1_letCome_33 (zPl_1 hp) (by decide) (by omega) ?_
        rw [g5.1]
        refine z_iload_n h dX1_letCome_34 rfl ?_
        refine z_icmp_ne h dX1_letCome_35 (by omega) (by omega) (fun b35 => by exfalso; omega) (fun b35 => ?_)
        refine z_raload_n h dX1_letCome_38 rfl ?_
        refine z_raload_n h dX1_letCome_39 rfl ?_
        refine y_getd 6 h dX1_letCome_40 fX1_34 L5 rfl rfl (by rw [e6]; exact hpl) ?_
        refine z_getr h dX1_letCome_43 fX1_149 (zPl_o hp) rfl ?_
        refine z_raload_n h dX1_letCome_46 rfl ?_
        refine y_get 11 h dX1_letCome_47 fX1_96 L5 rfl rfl ?_
        refine z_iald h dX1_letCome_50 (zPl_4 hp) (by decide) (by omega) ?_
        rw [g6]
        refine z_cVv1 h dX1_letCome_51 lX1_152 vX1_join rfl L5 (c_X1_join σ1 line1 P.1.length x.2 law np10 ⟨(h3 7 (by omega) (by omega)).trans hlaw.1, hlaw.2⟩ h6 (by omega) hxn (by omega)) rfl (Nat.le_of_ble_eq_true rfl) (by decide) (fun σ2 h11 => ?_)
        obtain ⟨h11, h12, h13⟩ := h11
        refine z_raload_n h dX1_letCome_54 rfl ?_
        refine z_dup h dX1_letCome_55 rfl ?_
        refine y_get 11 h dX1_letCome_56 fX1_96 L5 rfl rfl ?_
        refine z_iconst h dX1_letCome_59 ?_
        refine z_iadd h dX1_letCome_60 ?_
        refine y_put 11 h dX1_letCome_61 fX1_96 pX1_11 L5 rfl rfl ?_
        refine z_goto h dX1_letCome_64 ?_
        rw [h12 11 (by omega), h4, show (c1 : Int) + 1 = ((c1 + 1 : Nat) : Int) by omega]
        have hlen := hjp.length_eq
        rw [List.length_cons] at hlen
        refine ih (c1 + 1) _ (zJoin law line1 x.2) (by omega) (fun c a b d j => ?_) (fun j a b => ?_) (zup_eq _ _ _ _) (by omega) ?_ ?_ (by omega) h9 h10
        · rw [zup_ne a, h11 c a b d, h2 c a b d]
        · rw [zup_nei b, h12 j a, h3 j a b]
        · obtain ⟨t1, t2, t3, t4, t5, t6⟩ := h13
          refine ⟨by rw [zup_nei (by omega)]; exact t1, t2, fun k y hk => by rw [zup_ne (by omega)]; exact t3 k y hk, t4, t5, fun i a b => by rw [zup_ne (by omega)]; exact t6 i a b⟩
        · refine ((hjp.append_right _).nodup_iff).mpr ?_
          have e : (x.2 :: line1 ++ ((zod P.1).drop (c1 + 1)).map (fun x => x.2)).Perm (line1 ++ (x :: (zod P.1).drop (c1 + 1)).map (fun x => x.2)) := by
            rw [List.map_cons]
            exact List.perm_middle.symm
          exact e.nodup_iff.mpr h7
      · have h9 : zCm law t ((zod P.1).drop c) line = line1 := by rw [h9, zCm, if_neg hxt]
        have h10 : x :: (zod P.1).drop (c1 + 1) = ((zod P.1).drop c).dropWhile (fun x => decide (x.1 = t)) := by rw [← h10, List.dropWhile_cons, if_neg (by simpa using hxt)]
        refine z_raload_n h dX1_letCome_0 rfl ?_
        refine y_get 11 h dX1_letCome_1 fX1_96 L5 rfl rfl ?_
        refine z_raload_n h dX1_letCome_4 rfl ?_
        refine y_getd 6 h dX1_letCome_5 fX1_34 L5 rfl rfl (by rw [e6]; exact hpl) ?_
        refine y_get 5 h dX1_letCome_8 fX1_59 (zPl_o hp) rfl rfl ?_
        refine z_icmp_ge h dX1_letCome_11 (by omega) (by omega) (fun b11 => by exfalso; omega) (fun b11 => ?_)
        refine z_raload_n h dX1_letCome_14 rfl ?_
        refine y_getd 6 h dX1_letCome_15 fX1_34 L5 rfl rfl (by rw [e6]; exact hpl) ?_
        refine z_getr h dX1_letCome_18 fX1_106 (zPl_o hp) rfl ?_
        refine z_raload_n h dX1_letCome_21 rfl ?_
        refine y_getd 6 h dX1_letCome_22 fX1_34 L5 rfl rfl (by rw [e6]; exact hpl) ?_
        refine z_getr h dX1_letCome_25 fX1_149 (zPl_o hp) rfl ?_
        refine z_raload_n h dX1_letCome_28 rfl ?_
        refine y_get 11 h dX1_letCome_29 fX1_96 L5 rfl rfl ?_
        refine z_iald h dX1_letCome_32 (zPl_4 hp) (by decide) (by omega) ?_
        rw [g6]
        refine z_iald h dX1_letCome_33 (zPl_1 hp) (by decide) (by omega) ?_
        rw [g5.1]
        refine z_iload_n h dX1_letCome_34 rfl ?_
        refine z_icmp_ne h dX1_letCome_35 (by omega) (by omega) (fun b35 => ?_) (fun b35 => by exfalso; omega)
        refine z_irV h hr dX1_letCome_67 ?_
        rw [h9]
        exact ⟨h2, h3, h6, c1, h4, by omega, by rw [ed, ← h10], h8⟩
  exact L (P.1.length - c) c σ line (by omega) (fun _ _ _ _ _ => rfl) (fun _ _ _ => rfl) hc hll hR hnd rfl rfl rfl
/-- some of the row's first have ended -/
def zEd (l : List Int) (v : Int) (f : Int → Int) : Int → Int := fun i => if i ∈ l then v else f i
theorem c_X1_serve (σ : zM) (π : Nat) (hp : zPl π) (hpl : σ 5 6 = π) (P : zP) (hP : cPlan σ π P) (line : List Int) (how whn : Int → Int) (t : Int) (ht : 0 ≤ t ∧ t < 200) (hR : cRow σ line P.1.length) (hE : cEnd σ how whn) (left : Int) (hl : σ 5 13 = left ∧ 0 ≤ left ∧ left ≤ 99) (h12 : 0 ≤ σ 5 12 ∧ σ 5 12 ≤ 10000) (m : Nat) (hm : m = min line.length (min P.2.2.2.1.toNat left.toNat)) : zCv mX1_serve (fun w => [zr w 5, zi t]) σ (fun σ' => zfr 5 9 σ σ' ∧ (∀ i : Int, i ≠ 10 → i ≠ 12 → i ≠ 13 → σ' 5 i = σ 5 i) ∧ cRow σ' (line.drop m) P.1.length ∧ cEnd σ' (zEd (line.take m) 0 how) (zEd (line.take m) t whn) ∧ σ' 5 12 = σ 5 12 + m ∧ σ' 5 13 = left - m) := by
  refine zCv_mk (own := RX1) rfl (by decide +kernel) (fun w => [some (zr w 5), some (zi t), none, none]) (fun _ => rfl) (fun _ => Nat.le_of_ble_eq_true rfl) ?_
  intro Γ h hr
  have hpi : 39 ≤ π := by unfold zPl at hp; omega
  obtain ⟨r1, r2, r3, r4, r5, r6⟩ := hR
  have np10 := hP.2.2.2.2.2.1
  have q7 := hP.2.2.2.2.1.2.1
  have q7' := hP.2.2.2.2.2.2.2.2.2.1
  have em : min (σ 5 10) (min (σ π 7) (σ 5 13)) = m := by rw [r1, q7, hl.1, hm]; omega
  have hml : m ≤ line.length := by omega
  have L2 : ∀ (n k : Nat) (σ1 : zM), k + n = line.length → m ≤ k → zfr 5 9 σ σ1 → (∀ i : Int, i ≠ 12 → σ1 5 i = σ 5 i) → σ1 5 12 = σ 5 12 + m → (∀ j : Nat, j < k - m → ∀ x, line[j + m]? = some x → σ1 9 j = x) → (∀ j : Nat, k ≤ j → ∀ x, line[j]? = some x → σ1 9 j = x) → (∀ i : Int, 0 ≤ i → i < 10 → σ1 6 i = zEd (line.take m) 0 how i ∧ σ1 7 i = zEd (line.take m) t whn i ∧ σ1 8 i = if i ∈ line.drop m then 1 else 0) → zV Γ σ1 49 [some (zr (zw Γ) 5), some (zi t), some (zi m), some (zi k)] [] := by
    intro n
    induction n with
    | zero =>
      intro k σ1 h1 h1' h2 h3 h4 h5 h6 h7
      have e10 := h3 10 (by omega)
      have e13 := h3 13 (by omega)
      refine z_iload_n h dX1_serve_49 rfl ?_
      refine z_raload_n h dX1_serve_50 rfl ?_
      refine y_get 10 h dX1_serve_51 fX1_93 L5 rfl rfl ?_
      refine z_icmp_ge h dX1_serve_54 (by omega) (by omega) (fun b54 => ?_) (fun b54 => by exfalso; omega)
      refine z_raload_n h dX1_serve_77 rfl ?_
      refine z_dup h dX1_serve_78 rfl ?_
      refine y_get 13 h dX1_serve_79 fX1_87 L5 rfl rfl ?_
      refine z_iload_n h dX1_serve_82 rfl ?_
      refine z_isub h dX1_serve_83 ?_
      refine y_put 13 h dX1_serve_84 fX1_87 pX1_13 L5 rfl rfl ?_
      refine z_raload_n h dX1_serve_87 rfl ?_
      refine z_dup h dX1_serve_88 rfl ?_
      refine y_get 10 h dX1_serve_89 fX1_93 L5 rfl rfl ?_
      try simp (disch := omega) only [zup_eq, zup_ne, zup_nei]
      refine z_iload_n h dX1_serve_92 rfl ?_
      refine z_isub h dX1_serve_93 ?_
      refine y_put 10 h dX1_serve_94 fX1_93 pX1_10 L5 rfl rfl ?_
      refine z_irV h hr dX1_serve_97 ?_
      refine ⟨zfr_up (zfr_up h2 (by omega) (by omega)) (by omega) (by omega), fun i a b c => ?_, ⟨?_, ?_, fun j x hj => ?_, fun x hx => r4 x (List.mem_of_mem_drop hx), ?_, fun i a b => ?_⟩, fun i a b => ?_, ?_, ?_⟩
      · simp (disch := omega) only [zup_nei]; exact h3 i b
      · simp (disch := omega) only [zup_nei, zup_eq]; rw [e10, r1, List.length_drop]; omega
      · rw [List.length_drop]; omega
      · simp (disch := omega) only [zup_ne]
        rw [List.getElem?_drop] at hj
        have hlt := (List.getElem?_eq_some_iff.mp hj).1
        exact h5 j (by omega) x (by rw [Nat.add_comm]; exact hj)
      · exact r5.sublist (List.drop_sublist _ _)
      · simp (disch := omega) only [zup_ne]; exact (h7 i a b).2.2
      · simp (disch := omega) only [zup_ne]
        have h8 := h7 i a b
        have h9 := hE i a b
        refine ⟨⟨h8.1, h8.2.1⟩, ?_⟩
        unfold zEd
        by_cases e : i ∈ line.take m
        · simp only [if_pos e]; omega
        · simp only [if_neg e]; exact h9.2
      · simp (disch := omega) only [zup_nei]; exact h4
      · simp (disch := omega) only [zup_nei, zup_eq]; rw [e13, hl.1]
    | succ n ih =>
      intro k σ1 h1 h1' h2 h3 h4 h5 h6 h7
      have e10 := h3 10 (by omega)
      refine z_iload_n h dX1_serve_49 rfl ?_
      refine z_raload_n h dX1_serve_50 rfl ?_
      refine y_get 10 h dX1_serve_51 fX1_93 L5 rfl rfl ?_
      refine z_icmp_ge h dX1_serve_54 (by omega) (by omega) (fun b54 => by exfalso; omega) (fun b54 => ?_)
      refine z_raload_n h dX1_serve_57 rfl ?_
      refine z_getr h dX1_serve_58 fX1_22 L5 rfl ?_
      refine z_iload_n h dX1_serve_61 rfl ?_
      refine z_iload_n h dX1_serve_62 rfl ?_
      refine z_isub h dX1_serve_63 ?_
      refine z_raload_n h dX1_serve_64 rfl ?_
      refine z_getr h dX1_serve_65 fX1_22 L5 rfl ?_
      refine z_iload_n h dX1_serve_68 rfl ?_
      refine z_iald h dX1_serve_69 L9 (by decide) (by omega) ?_
      refine z_iast h dX1_serve_70 L9 (by decide) (by omega) ?_
      refine z_iinc h dX1_serve_71 (by decide) rfl (zst1_3 rfl) ?_
      refine z_goto h dX1_serve_74 ?_
      rw [show (k : Int) + 1 = ((k + 1 : Nat) : Int) by omega]
      refine ih (k + 1) _ (by omega) (by omega) (zfr_up h2 (by omega) (by omega)) (fun i a => by rw [zup_ne (by omega)]; exact h3 i a) (by rw [zup_ne (by omega)]; exact h4) (fun j hj x hx => ?_) (fun j hj x hx => by rw [zup_nei (by omega)]; exact h6 j (by omega) x hx) (fun i a b => by simp (disch := omega) only [zup_ne]; exact h7 i a b)
      by_cases e : j = k - m
      · subst e
        rw [zup_eqi (by omega)]
        rw [show k - m + m = k by omega] at hx
        exact h6 k (Nat.le_refl _) x hx
      · rw [zup_nei (by omega)]
        exact h5 j (by omega) x hx
  have L1 : ∀ (n k : Nat) (σ1 : zM), k + n = m → zfr 5 9 σ σ1 → (∀ i : Int, i ≠ 12 → σ1 5 i = σ 5 i) → σ1 5 12 = σ 5 12 + k → (∀ i, σ1 9 i = σ 9 i) → (∀ i : Int, 0 ≤ i → i < 10 → σ1 6 i = zEd (line.take k) 0 how i ∧ σ1 7 i = zEd (line.take k) t whn i ∧ σ1 8 i = if i ∈ line.drop k then 1 else 0) → zV Γ σ1 24 [some (zr (zw Γ) 5), some (zi t), some (zi m), some (zi k)] [] := by
    intro n
    induction n with
    | zero =>
      intro k σ1 h1 h2 h3 h4 h5 h6
      have e : k = m := by omega
      subst e
      refine z_iload_n h dX1_serve_24 rfl ?_
      refine z_iload_n h dX1_serve_25 rfl ?_
      refine z_icmp_ge h dX1_serve_26 (by omega) (by omega) (fun b26 => ?_) (fun b26 => by exfalso; omega)
      refine z_iload_n h dX1_serve_47 rfl ?_
      refine z_ist1_n h dX1_serve_48 (by decide) (zst1_3 rfl) ?_
      exact L2 (line.length - k) k σ1 (by omega) (Nat.le_refl _) h2 h3 h4 (fun j hj => by omega) (fun j hj x hx => by rw [h5]; exact r3 j x hx) h6
    | succ n ih =>
      intro k σ1 h1 h2 h3 h4 h5 h6
      have hlt : k < line.length := by omega
      have hx := List.getElem?_eq_getElem hlt
      obtain ⟨x, hxe⟩ : ∃ x, x = line[k] := ⟨_, rfl⟩
      rw [← hxe] at hx
      have hxr := r4 x (List.mem_of_getElem? hx)
      have e9 : σ1 9 k = x := by rw [h5]; exact r3 k x hx
      have etk : line.take (k + 1) = line.take k ++ [x] := by rw [List.take_add_one, hx]; rfl
      have ed : line.drop k = x :: line.drop (k + 1) := by rw [hxe]; exact List.drop_eq_getElem_cons hlt
      have hxd : x ∉ line.drop (k + 1) := by
        have := r5.sublist (List.drop_sublist k line)
        rw [ed] at this
        exact (List.nodup_cons.mp this).1
      refine z_iload_n h dX1_serve_24 rfl ?_
      refine z_iload_n h dX1_serve_25 rfl ?_
      refine z_icmp_ge h dX1_serve_26 (by omega) (by omega) (fun b26 => by exfalso; omega) (fun b26 => ?_)
      refine z_raload_n h dX1_serve_29 rfl ?_
      refine z_raload_n h dX1_serve_30 rfl ?_
      refine z_getr h dX1_serve_31 fX1_22 L5 rfl ?_
      refine z_iload_n h dX1_serve_34 rfl ?_
      refine z_iald h dX1_serve_35 L9 (by decide) (by omega) ?_
      rw [e9]
      refine z_iconst h dX1_serve_36 ?_
      refine z_iload_n h dX1_serve_37 rfl ?_
      refine z_cVv3 h dX1_serve_38 lX1_112 vX1_end rfl L5 (c_X1_end σ1 x 0 t (by omega)) rfl (Nat.le_of_ble_eq_true rfl) (by decide) (fun σ2 h7 => ?_)
      refine z_iinc h dX1_serve_41 (by decide) rfl (zst1_3 rfl) ?_
      refine z_goto h dX1_serve_44 ?_
      subst h7
      rw [show (k : Int) + 1 = ((k + 1 : Nat) : Int) by omega]
      refine ih (k + 1) _ (by omega) (zfr_up (zfr_up (zfr_up (zfr_up h2 (by omega) (by omega)) (by omega) (by omega)) (by omega) (by omega)) (by omega) (by omega)) (fun i a => by simp (disch := omega) only [zup_nei, zup_ne]; exact h3 i a) (by rw [zup_eq, h4]; omega) (fun i => by simp (disch := omega) only [zup_ne]; exact h5 i) (fun i a b => ?_)
      have h8 := h6 i a b
      by_cases e : i = x
      · subst e
        simp (disch := omega) only [zup_ne, zup_eq]
        rw [if_neg hxd]
        unfold zEd
        rw [etk]
        simp
      · simp (disch := omega) only [zup_ne, zup_nei]
        rw [ed] at h8
        unfold zEd at h8 ⊢
        rw [etk]
        simp only [List.mem_append, List.mem_singleton, e, or_false]
        simp only [List.mem_cons, e, false_or] at h8
        exact h8
  refine z_raload_n h dX1_serve_0 rfl ?_
  refine y_get 10 h dX1_serve_1 fX1_93 L5 rfl rfl ?_
  refine z_raload_n h dX1_serve_4 rfl ?_
  refine y_getd 6 h dX1_serve_5 fX1_34 L5 rfl rfl hpl ?_
  refine y_get 7 h dX1_serve_8 fX1_155 (zPl_o hp) rfl rfl ?_
  refine z_raload_n h dX1_serve_11 rfl ?_
  refine y_get 13 h dX1_serve_12 fX1_87 L5 rfl rfl ?_
  refine z_min h dX1_serve_15 lmX1_158 lmS lmI lmC (by omega) (by omega) (by decide) (Nat.le_of_ble_eq_true rfl) (Nat.zero_le _) (Nat.zero_le _) ?_
  refine z_min h dX1_serve_18 lmX1_158 lmS lmI lmC (by omega) (by omega) (by decide) (Nat.le_of_ble_eq_true rfl) (Nat.zero_le _) (Nat.zero_le _) ?_
  rw [em]
  refine z_ist1_n h dX1_serve_21 (by decide) (zst1_2 rfl) ?_
  refine z_iconst h dX1_serve_22 ?_
  refine z_ist1_n h dX1_serve_23 (by decide) (zst1_3 rfl) ?_
  refine L1 m 0 σ (by omega) zfr_rf (fun _ _ => rfl) (by omega) (fun _ => rfl) (fun i a b => ?_)
  have := hE i a b
  unfold zEd
  simp
  exact ⟨this.1.1, this.1.2, r6 i a b⟩
theorem c_X1_sendHome (σ : zM) (line : List Int) (np : Nat) (hnp : np ≤ 10) (how whn : Int → Int) (t : Int) (ht : 0 ≤ t ∧ t < 200) (hR : cRow σ line np) (hE : cEnd σ how whn) (h12 : 0 ≤ σ 5 12 ∧ σ 5 12 ≤ 10000) : zCv mX1_sendHome (fun w => [zr w 5, zi t]) σ (fun σ' => zfr 5 9 σ σ' ∧ (∀ i : Int, i ≠ 10 → i ≠ 12 → σ' 5 i = σ 5 i) ∧ cRow σ' [] np ∧ cEnd σ' (zEd line 2 how) (zEd line t whn) ∧ σ' 5 12 = σ 5 12 + line.length) := by
  refine zCv_mk (own := RX1) rfl (by decide +kernel) (fun w => [some (zr w 5), some (zi t), none]) (fun _ => rfl) (fun _ => Nat.le_of_ble_eq_true rfl) ?_
  intro Γ h hr
  obtain ⟨r1, r2, r3, r4, r5, r6⟩ := hR
  have L1 : ∀ (n k : Nat) (σ1 : zM), k + n = line.length → zfr 5 9 σ σ1 → (∀ i : Int, i ≠ 12 → σ1 5 i = σ 5 i) → σ1 5 12 = σ 5 12 + k → (∀ i, σ1 9 i = σ 9 i) → (∀ i : Int, 0 ≤ i → i < 10 → σ1 6 i = zEd (line.take k) 2 how i ∧ σ1 7 i = zEd (line.take k) t whn i ∧ σ1 8 i = if i ∈ line.drop k then 1 else 0) → zV Γ σ1 2 [some (zr (zw Γ) 5), some (zi t), some (zi k)] [] := by
    intro n
    induction n with
    | zero =>
      intro k σ1 h1 h2 h3 h4 h5 h6
      have e10 := h3 10 (by omega)
      rw [List.take_of_length_le (by omega), List.drop_eq_nil_of_le (by omega)] at h6
      refine z_iload_n h dX1_sendHome_2 rfl ?_
      refine z_raload_n h dX1_sendHome_3 rfl ?_
      refine y_get 10 h dX1_sendHome_4 fX1_93 L5 rfl rfl ?_
      refine z_icmp_ge h dX1_sendHome_7 (by omega) (by omega) (fun b7 => ?_) (fun b7 => by exfalso; omega)
      refine z_raload_n h dX1_sendHome_28 rfl ?_
      refine z_iconst h dX1_sendHome_29 ?_
      refine y_put 10 h dX1_sendHome_30 fX1_93 pX1_10 L5 rfl rfl ?_
      refine z_irV h hr dX1_sendHome_33 ?_
      refine ⟨zfr_up h2 (by omega) (by omega), fun i a b => ?_, ⟨by rw [zup_eq]; rfl, by simp, by simp, by simp, by simp, fun i a b => ?_⟩, fun i a b => ?_, ?_⟩
      · rw [zup_nei a]; exact h3 i b
      · rw [zup_ne (by omega)]; exact (h6 i a b).2.2
      · simp (disch := omega) only [zup_ne]
        have h8 := h6 i a b
        have h9 := hE i a b
        refine ⟨⟨h8.1, h8.2.1⟩, ?_⟩
        unfold zEd
        by_cases e : i ∈ line
        · simp only [if_pos e]; omega
        · simp only [if_neg e]; exact h9.2
      · rw [zup_nei (by omega), h4]; omega
    | succ n ih =>
      intro k σ1 h1 h2 h3 h4 h5 h6
      have e10 := h3 10 (by omega)
      have hlt : k < line.length := by omega
      have hx := List.getElem?_eq_getElem hlt
      obtain ⟨x, hxe⟩ : ∃ x, x = line[k] := ⟨_, rfl⟩
      rw [← hxe] at hx
      have hxr := r4 x (List.mem_of_getElem? hx)
      have e9 : σ1 9 k = x := by rw [h5]; exact r3 k x hx
      have etk : line.take (k + 1) = line.take k ++ [x] := by rw [List.take_add_one, hx]; rfl
      have ed : line.drop k = x :: line.drop (k + 1) := by rw [hxe]; exact List.drop_eq_getElem_cons hlt
      have hxd : x ∉ line.drop (k + 1) := by
        have := r5.sublist (List.drop_sublist k line)
        rw [ed] at this
        exact (List.nodup_cons.mp this).1
      refine z_iload_n h dX1_sendHome_2 rfl ?_
      refine z_raload_n h dX1_sendHome_3 rfl ?_
      refine y_get 10 h dX1_sendHome_4 fX1_93 L5 rfl rfl ?_
      refine z_icmp_ge h dX1_sendHome_7 (by omega) (by omega) (fun b7 => by exfalso; omega) (fun b7 => ?_)
      refine z_raload_n h dX1_sendHome_10 rfl ?_
      refine z_raload_n h dX1_sendHome_11 rfl ?_
      refine z_getr h dX1_sendHome_12 fX1_22 L5 rfl ?_
      refine z_iload_n h dX1_sendHome_15 rfl ?_
      refine z_iald h dX1_sendHome_16 L9 (by decide) (by omega) ?_
      rw [e9]
      refine z_iconst h dX1_sendHome_17 ?_
      refine z_iload_n h dX1_sendHome_18 rfl ?_
      refine z_cVv3 h dX1_sendHome_19 lX1_112 vX1_end rfl L5 (c_X1_end σ1 x 2 t (by omega)) rfl (Nat.le_of_ble_eq_true rfl) (by decide) (fun σ2 h7 => ?_)
      refine z_iinc h dX1_sendHome_22 (by decide) rfl (zst1_2 rfl) ?_
      refine z_goto h dX1_sendHome_25 ?_
      subst h7
      rw [show (k : Int) + 1 = ((k + 1 : Nat) : Int) by omega]
      refine ih (k + 1) _ (by omega) (zfr_up (zfr_up (zfr_up (zfr_up h2 (by omega) (by omega)) (by omega) (by omega)) (by omega) (by omega)) (by omega) (by omega)) (fun i a => by simp (disch := omega) only [zup_nei, zup_ne]; exact h3 i a) (by rw [zup_eq, h4]; omega) (fun i => by simp (disch := omega) only [zup_ne]; exact h5 i) (fun i a b => ?_)
      have h8 := h6 i a b
      by_cases e : i = x
      · subst e
        simp (disch := omega) only [zup_ne, zup_eq]
        rw [if_neg hxd]
        unfold zEd
        rw [etk]
        simp
      · simp (disch := omega) only [zup_ne, zup_nei]
        rw [ed] at h8
        unfold zEd at h8 ⊢
        rw [etk]
        simp only [List.mem_append, List.mem_singleton, e, or_false]
        simp only [List.mem_cons, e, false_or] at h8
        exact h8
  refine z_iconst h dX1_sendHome_0 ?_
  refine z_ist1_n h dX1_sendHome_1 (by decide) (zst1_2 rfl) ?_
  refine L1 line.length 0 σ (by omega) zfr_rf (fun _ _ => rfl) (by omega) (fun _ => rfl) (fun i a b => ?_)
  have := hE i a b
  unfold zEd
  simp
  exact ⟨this.1.1, this.1.2, r6 i a b⟩
