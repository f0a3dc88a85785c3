def zTurn (law : Int) (line : List Int) : List Int := line.take (if law = 2 then 3 else 0) ++ (line.drop (if law = 2 then 3 else 0)).reverse
theorem zTurn_get {law : Int} {line : List Int} {a0 k : Nat} {x : Int} (ha : a0 = if law = 2 then 3 else 0) (h : (zTurn law line)[k]? = some x) : (k < a0 ∧ line[k]? = some x) ∨ (a0 ≤ k ∧ k < line.length ∧ line[a0 + line.length - 1 - k]? = some x) := by
  unfold zTurn at h
  rw [← ha] at h
  by_cases hk : k < (line.take a0).length
  · rw [List.getElem?_append_left hk, List.getElem?_take] at h
    rw [List.length_take] at hk
    rw [if_pos (by omega)] at h
    exact Or.inl ⟨by omega, h⟩
  · rw [List.getElem?_append_right (by omega)] at h
    have hl := (List.getElem?_eq_some_iff.mp h).1
    rw [List.length_reverse, List.length_drop, List.length_take] at hl
    rw [List.length_take] at hk
    rw [List.getElem?_reverse (by rw [List.length_drop, List.length_take]; omega), List.getElem?_drop, List.length_drop, List.length_take] at h
    refine Or.inr ⟨by omega, by omega, ?_⟩
    rw [← h]
    congr 1
    omega
theorem zTurn_mem {law : Int} {line : List Int} {x : Int} : x ∈ zTurn law line ↔ x ∈ line := by
  unfold zTurn
  rw [List.mem_append, List.mem_reverse]
  conv => rhs; rw [← List.take_append_drop (if law = 2 then 3 else 0) line]
  rw [List.mem_append]
theorem zTurn_perm (law : Int) (line : List Int) : (zTurn law line).Perm line := by
  unfold zTurn
  conv => rhs; rw [← List.take_append_drop (if law = 2 then 3 else 0) line]
  exact List.Perm.append_left _ (List.reverse_perm _)
theorem zTurn_len (law : Int) (line : List Int) : (zTurn law line).length = line.length := (zTurn_perm law line).length_eq
theorem c_X1_turn (σ : zM) (π : Nat) (hp : zPl π) (hpl : σ 5 6 = π) (P : zP) (hP : cPlan σ π P) (line : List Int) (t law lt : Int) (ht : 0 ≤ t ∧ t < 200) (hlaw : σ 5 7 = law ∧ 0 ≤ law ∧ law ≤ 3) (hlt : σ 5 15 = lt ∧ -1 ≤ lt ∧ lt < 200) (hR : cRow σ line P.1.length) : zCv mX1_turn (fun w => [zr w 5, zi t]) σ (fun σ' => ((law = 3 ∨ (0 ≤ lt ∧ t - lt ≤ P.2.2.1)) ∧ σ' = σ) ∨ (¬ (law = 3 ∨ (0 ≤ lt ∧ t - lt ≤ P.2.2.1)) ∧ (∀ c, c ≠ 5 → c ≠ 9 → ∀ i, σ' c i = σ c i) ∧ (∀ i : Int, i ≠ 14 → i ≠ 15 → σ' 5 i = σ 5 i) ∧ cRow σ' (zTurn law line) P.1.length ∧ σ' 5 14 = σ 5 14 + 1 ∧ σ' 5 15 = t)) := by
  refine zCv_mk (own := RX1) rfl (by decide +kernel) (fun w => [some (zr w 5), some (zi t), none, none, none]) (fun _ => rfl) (fun _ => Nat.le_of_ble_eq_true rfl) ?_
  intro Γ h hr
  obtain ⟨r1, r2, r3, r4, r5, r6⟩ := hR
  have hpi : 39 ≤ π := by unfold zPl at hp; omega
  have hq := hP.2.2.2.2.1.1
  have hq2 := hP.2.2.2.2.2.2.2.2.1
  have L : ∀ (n : Nat) (a b a0 : Int) (σ1 : zM) (l4 : Option Value), (b - a).toNat = n → (a0 = if law = 2 then 3 else 0) → ¬ (law = 3 ∨ (0 ≤ lt ∧ t - lt ≤ P.2.2.1)) → a + b = a0 + line.length - 1 → a0 ≤ a → a ≤ 20 → -20 ≤ b → b < line.length → (∀ c, c ≠ 9 → ∀ i, σ1 c i = σ c i) → (∀ j : Int, (j < a0 ∨ (a ≤ j ∧ j ≤ b)) → σ1 9 j = σ 9 j) → (∀ j : Int, a0 ≤ j → j < line.length → (j < a ∨ b < j) → σ1 9 j = σ 9 (a0 + line.length - 1 - j)) → zV Γ σ1 53 [some (zr (zw Γ) 5), some (zi t), some (zi b), some (zi a), l4] [] := by
    intro n
    induction n using Nat.strongRecOn with
    | _ n ih =>
      intro a b a0 σ1 l4 h1 ha0 hc h2 h3 h4 h5 h6 h7 h8 h9
      have e5 := h7 5 (by omega)
      refine z_iload_n h dX1_turn_53 rfl ?_
      refine z_iload_n h dX1_turn_54 rfl ?_
      refine z_icmp_ge h dX1_turn_55 (by omega) (by omega) (fun b55 => ?_) (fun b55 => ?_)
      · refine z_raload_n h dX1_turn_95 rfl ?_
        refine z_dup h dX1_turn_96 rfl ?_
        refine y_get 14 h dX1_turn_97 fX1_100 L5 rfl rfl ?_
        refine z_iconst h dX1_turn_100 ?_
        refine z_iadd h dX1_turn_101 ?_
        refine y_put 14 h dX1_turn_102 fX1_100 pX1_14 L5 rfl rfl ?_
        refine z_raload_n h dX1_turn_105 rfl ?_
        refine z_iload_n h dX1_turn_106 rfl ?_
        refine y_put 15 h dX1_turn_107 fX1_103 pX1_15 L5 rfl rfl ?_
        refine z_irV h hr dX1_turn_110 ?_
        have e0 : (if law = 2 then 3 else 0 : Nat) = a0.toNat := by rw [ha0]; split <;> rfl
        refine Or.inr ⟨hc, fun c c1 c2 i => ?_, fun i i1 i2 => ?_, ⟨?_, ?_, fun k x hk => ?_, fun x hx => ?_, ?_, fun i i1 i2 => ?_⟩, ?_, ?_⟩
        · simp (disch := omega) only [zup_ne]; exact h7 c c2 i
        · simp (disch := omega) only [zup_nei]; exact e5 i
        · simp (disch := omega) only [zup_nei]; rw [e5, zTurn_len]; exact r1
        · rw [zTurn_len]; exact r2
        · simp (disch := omega) only [zup_ne]
          rcases zTurn_get e0.symm hk with ⟨z1, z2⟩ | ⟨z1, z2, z3⟩
          · rw [h8 k (by omega)]; exact r3 k x z2
          · have hz := r3 _ x z3
            by_cases e : (k : Int) < a ∨ b < k
            · rw [h9 k (by omega) (by omega) e, ← hz]
              congr 1
              omega
            · rw [h8 k (by omega), ← hz]
              congr 1
              omega
        · exact r4 x (zTurn_mem.mp hx)
        · exact (zTurn_perm law line).nodup_iff.mpr r5
        · simp (disch := omega) only [zup_ne]
          rw [h7 8 (by omega), r6 i i1 i2]
          simp only [zTurn_mem]
        · simp (disch := omega) only [zup_nei, zup_eq]; rw [e5]
        · simp (disch := omega) only [zup_nei, zup_eq]
      · refine z_raload_n h dX1_turn_58 rfl ?_
        refine z_getr h dX1_turn_59 fX1_22 L5 rfl ?_
        refine z_iload_n h dX1_turn_62 rfl ?_
        refine z_iald h dX1_turn_63 L9 (by decide) (by omega) ?_
        refine z_ist1 h dX1_turn_64 (by decide) (zst1_4 rfl) ?_
        refine z_raload_n h dX1_turn_66 rfl ?_
        refine z_getr h dX1_turn_67 fX1_22 L5 rfl ?_
        refine z_iload_n h dX1_turn_70 rfl ?_
        refine z_raload_n h dX1_turn_71 rfl ?_
        refine z_getr h dX1_turn_72 fX1_22 L5 rfl ?_
        refine z_iload_n h dX1_turn_75 rfl ?_
        refine z_iald h dX1_turn_76 L9 (by decide) (by omega) ?_
        refine z_iast h dX1_turn_77 L9 (by decide) (by omega) ?_
        refine z_raload_n h dX1_turn_78 rfl ?_
        refine z_getr h dX1_turn_79 fX1_22 L5 rfl ?_
        refine z_iload_n h dX1_turn_82 rfl ?_
        refine z_iload h dX1_turn_83 rfl ?_
        refine z_iast h dX1_turn_85 L9 (by decide) (by omega) ?_
        refine z_iinc h dX1_turn_86 (by decide) rfl (zst1_2 rfl) ?_
        refine z_iinc h dX1_turn_89 (by decide) rfl (zst1_3 rfl) ?_
        refine z_goto h dX1_turn_92 ?_
        refine ih _ (by omega) _ _ a0 _ _ rfl ha0 hc (by omega) (by omega) (by omega) (by omega) (by omega) (fun c hcc i => by simp (disch := omega) only [zup_ne]; exact h7 c hcc i) (fun j hj => ?_) (fun j hj1 hj2 hj3 => ?_)
        · simp (disch := omega) only [zup_nei]
          exact h8 j (by omega)
        · by_cases e1 : j = b
          · subst e1
            rw [zup_eq, h8 a (by omega)]
            congr 1
            omega
          · by_cases e2 : j = a
            · subst e2
              rw [zup_nei (by omega), zup_eq, h8 b (by omega)]
              congr 1
              omega
            · simp (disch := omega) only [zup_nei]
              exact h9 j hj1 hj2 (by omega)
  refine z_raload_n h dX1_turn_0 rfl ?_
  refine y_get 7 h dX1_turn_1 fX1_42 L5 rfl rfl ?_
  refine z_iconst h dX1_turn_4 ?_
  refine z_icmp_eq h dX1_turn_5 (by omega) (by omega) (fun b5 => ?_) (fun b5 => ?_)
  · refine z_irV h hr dX1_turn_31 ?_
    refine Or.inl ⟨?_, rfl⟩
    first | exact Or.inl (by omega) | exact Or.inr (by omega)
  · refine z_raload_n h dX1_turn_8 rfl ?_
    refine y_get 15 h dX1_turn_9 fX1_103 L5 rfl rfl ?_
    refine z_if_lt h dX1_turn_12 (by omega) (fun b12 => ?_) (fun b12 => ?_)
    · refine z_raload_n h dX1_turn_32 rfl ?_
      refine y_get 10 h dX1_turn_33 fX1_93 L5 rfl rfl ?_
      refine z_iconst h dX1_turn_36 ?_
      refine z_isub h dX1_turn_37 ?_
      refine z_ist1_n h dX1_turn_38 (by decide) (zst1_2 rfl) ?_
      refine z_raload_n h dX1_turn_39 rfl ?_
      refine y_get 7 h dX1_turn_40 fX1_42 L5 rfl rfl ?_
      refine z_iconst h dX1_turn_43 ?_
      refine z_icmp_ne h dX1_turn_44 (by omega) (by omega) (fun b44 => ?_) (fun b44 => ?_)
      · refine z_iconst h dX1_turn_51 ?_
        refine z_ist1_n h dX1_turn_52 (by decide) (zst1_3 rfl) ?_
        refine L _ _ _ _ σ none rfl rfl (by omega) ?_ ?_ ?_ ?_ (by omega) (fun _ _ _ => rfl) (fun _ _ => rfl) (fun j hj1 hj2 hj3 => ?_) <;> (first | omega | skip) <;> split <;> omega
      · refine z_iconst h dX1_turn_47 ?_
        refine z_goto h dX1_turn_48 ?_
        refine z_ist1_n h dX1_turn_52 (by decide) (zst1_3 rfl) ?_
        refine L _ _ _ _ σ none rfl rfl (by omega) ?_ ?_ ?_ ?_ (by omega) (fun _ _ _ => rfl) (fun _ _ => rfl) (fun j hj1 hj2 hj3 => ?_) <;> (first | omega | skip) <;> split <;> omega
    · refine z_iload_n h dX1_turn_15 rfl ?_
      refine z_raload_n h dX1_turn_16 rfl ?_
      refine y_get 15 h dX1_turn_17 fX1_103 L5 rfl rfl ?_
      refine z_isub h dX1_turn_20 ?_
      refine z_raload_n h dX1_turn_21 rfl ?_
      refine y_getd 6 h dX1_turn_22 fX1_34 L5 rfl rfl hpl ?_
      refine y_get 6 h dX1_turn_25 fX1_146 (zPl_o hp) rfl rfl ?_
      refine z_icmp_gt h dX1_turn_28 (by omega) (by omega) (fun b28 => ?_) (fun b28 => ?_)
      · refine z_raload_n h dX1_turn_32 rfl ?_
        refine y_get 10 h dX1_turn_33 fX1_93 L5 rfl rfl ?_
        refine z_iconst h dX1_turn_36 ?_
        refine z_isub h dX1_turn_37 ?_
        refine z_ist1_n h dX1_turn_38 (by decide) (zst1_2 rfl) ?_
        refine z_raload_n h dX1_turn_39 rfl ?_
        refine y_get 7 h dX1_turn_40 fX1_42 L5 rfl rfl ?_
        refine z_iconst h dX1_turn_43 ?_
        refine z_icmp_ne h dX1_turn_44 (by omega) (by omega) (fun b44 => ?_) (fun b44 => ?_)
        · refine z_iconst h dX1_turn_51 ?_
          refine z_ist1_n h dX1_turn_52 (by decide) (zst1_3 rfl) ?_
          refine L _ _ _ _ σ none rfl rfl (by omega) ?_ ?_ ?_ ?_ (by omega) (fun _ _ _ => rfl) (fun _ _ => rfl) (fun j hj1 hj2 hj3 => ?_) <;> (first | omega | skip) <;> split <;> omega
        · refine z_iconst h dX1_turn_47 ?_
          refine z_goto h dX1_turn_48 ?_
          refine z_ist1_n h dX1_turn_52 (by decide) (zst1_3 rfl) ?_
          refine L _ _ _ _ σ none rfl rfl (by omega) ?_ ?_ ?_ ?_ (by omega) (fun _ _ _ => rfl) (fun _ _ => rfl) (fun j hj1 hj2 hj3 => ?_) <;> (first | omega | skip) <;> split <;> omega
      · refine z_irV h hr dX1_turn_31 ?_
        refine Or.inl ⟨?_, rfl⟩
        first | exact Or.inl (by omega) | exact Or.inr (by omega)
def zJoin (law : Int) (line : List Int) (i : Int) : List Int := line.take (if law = 1 then line.length / 2 else line.length) ++ i :: line.drop (if law = 1 then line.length / 2 else line.length)
theorem zJoin_perm (law : Int) (line : List Int) (i : Int) : (zJoin law line i).Perm (i :: line) := by
  unfold zJoin
  conv => rhs; rw [← List.take_append_drop (if law = 1 then line.length / 2 else line.length) line]
  exact List.perm_middle
theorem zJoin_get {law : Int} {line : List Int} {i : Int} {a k : Nat} {x : Int} (ha : a = if law = 1 then line.length / 2 else line.length) (h : (zJoin law line i)[k]? = some x) : (k < a ∧ line[k]? = some x) ∨ (k = a ∧ x = i) ∨ (a < k ∧ line[k - 1]? = some x) := by
  unfold zJoin at h
  rw [← ha] at h
  have hal : a ≤ line.length := by rw [ha]; split <;> omega
  have hl : (line.take a).length = a := by rw [List.length_take]; omega
  rcases Nat.lt_trichotomy k a with h1 | h1 | h1
  · rw [List.getElem?_append_left (by omega), List.getElem?_take, if_pos h1] at h
    exact Or.inl ⟨h1, h⟩
  · subst h1
    rw [List.getElem?_append_right (by omega), hl, Nat.sub_self] at h
    cases h
    exact Or.inr (Or.inl ⟨rfl, rfl⟩)
  · rw [List.getElem?_append_right (by omega), hl, show k - a = (k - 1 - a) + 1 by omega, List.getElem?_cons_succ, List.getElem?_drop, show a + (k - 1 - a) = k - 1 by omega] at h
    exact Or.inr (Or.inr ⟨h1, h⟩)
theorem c_X1_join (σ : zM) (line : List Int) (np : Nat) (i law : Int) (hnp : np ≤ 10) (hlaw : σ 5 7 = law ∧ 0 ≤ law ∧ law ≤ 3) (hR : cRow σ line np) (hi : 0 ≤ i ∧ i < np) (hn : i ∉ line) (hl : line.length < 10) : zCv mX1_join (fun w => [zr w 5, zi i]) σ (fun σ' => (∀ c, c ≠ 5 → c ≠ 8 → c ≠ 9 → ∀ j, σ' c j = σ c j) ∧ (∀ j : Int, j ≠ 10 → σ' 5 j = σ 5 j) ∧ cRow σ' (zJoin law line i) np) := by
  refine zCv_mk (own := RX1) rfl (by decide +kernel) (fun w => [some (zr w 5), some (zi i), none, none]) (fun _ => rfl) (fun _ => Nat.le_of_ble_eq_true rfl) ?_
  intro Γ h hr
  obtain ⟨r1, r2, r3, r4, r5, r6⟩ := hR
  have L : ∀ (n k a : Nat) (σ1 : zM), k = a + n → (a = if law = 1 then line.length / 2 else line.length) → k ≤ line.length → (∀ c, c ≠ 9 → ∀ j, σ1 c j = σ c j) → (∀ j : Int, j < k → σ1 9 j = σ 9 j) → (∀ j : Int, k ≤ j → j < line.length → σ1 9 (j + 1) = σ 9 j) → zV Γ σ1 37 [some (zr (zw Γ) 5), some (zi i), some (zi a), some (zi k)] [] := by
    intro n
    induction n with
    | zero =>
      intro k a σ1 h1 ha h2 h3 h4 h5
      have e5 := h3 5 (by omega)
      refine z_iload_n h dX1_join_37 rfl ?_
      refine z_iload_n h dX1_join_38 rfl ?_
      refine z_icmp_le h dX1_join_39 (by omega) (by omega) (fun b39 => ?_) (fun b39 => by exfalso; omega)
      refine z_raload_n h dX1_join_62 rfl ?_
      refine z_getr h dX1_join_63 fX1_22 L5 rfl ?_
      refine z_iload_n h dX1_join_66 rfl ?_
      refine z_iload_n h dX1_join_67 rfl ?_
      refine z_iast h dX1_join_68 L9 (by decide) (by omega) ?_
      refine z_raload_n h dX1_join_69 rfl ?_
      refine z_getr h dX1_join_70 fX1_18 L5 rfl ?_
      refine z_iload_n h dX1_join_73 rfl ?_
      refine z_iconst h dX1_join_74 ?_
      refine z_zast h dX1_join_75 L8 (by decide) (by omega) (by decide) ?_
      refine z_raload_n h dX1_join_76 rfl ?_
      refine z_dup h dX1_join_77 rfl ?_
      refine y_get 10 h dX1_join_78 fX1_93 L5 rfl rfl ?_
      try simp (disch := omega) only [zup_eq, zup_ne, zup_nei]
      refine z_iconst h dX1_join_81 ?_
      refine z_iadd h dX1_join_82 ?_
      refine y_put 10 h dX1_join_83 fX1_93 pX1_10 L5 rfl rfl ?_
      refine z_irV h hr dX1_join_86 ?_
      refine ⟨fun c c1 c2 c3 j => ?_, fun j hj => ?_, ⟨?_, ?_, fun j x hj => ?_, fun x hx => ?_, ?_, fun j j1 j2 => ?_⟩⟩
      · simp (disch := omega) only [zup_ne]; exact h3 c c3 j
      · simp (disch := omega) only [zup_nei, zup_ne]; exact e5 j
      · simp (disch := omega) only [zup_nei, zup_eq]; rw [e5, r1, (zJoin_perm law line i).length_eq]; simp
      · rw [(zJoin_perm law line i).length_eq]; simp; omega
      · simp (disch := omega) only [zup_ne]
        rcases zJoin_get ha hj with ⟨z1, z2⟩ | ⟨z1, z2⟩ | ⟨z1, z2⟩
        · rw [zup_nei (by omega), h4 j (by omega)]; exact r3 j x z2
        · rw [zup_eqi (by omega), z2]
        · have hlt := (List.getElem?_eq_some_iff.mp z2).1
          rw [zup_nei (by omega)]
          have := h5 ((j - 1 : Nat) : Int) (by omega) (by omega)
          rw [show ((j - 1 : Nat) : Int) + 1 = j by omega] at this
          rw [this]
          exact r3 _ x z2
      · rcases List.mem_cons.mp ((zJoin_perm law line i).mem_iff.mp hx) with rfl | hx
        · exact hi
        · exact r4 x hx
      · exact (zJoin_perm law line i).nodup_iff.mpr (List.nodup_cons.mpr ⟨hn, r5⟩)
      · simp only [(zJoin_perm law line i).mem_iff, List.mem_cons]
        by_cases e : j = i
        · subst e
          simp (disch := omega) only [zup_ne, zup_eq]
          simp
        · simp (disch := omega) only [zup_ne, zup_nei]
          rw [h3 8 (by omega), r6 j j1 j2]
          simp [e]
    | succ n ih =>
      intro k a σ1 h1 ha h2 h3 h4 h5
      refine z_iload_n h dX1_join_37 rfl ?_
      refine z_iload_n h dX1_join_38 rfl ?_
      refine z_icmp_le h dX1_join_39 (by omega) (by omega) (fun b39 => by exfalso; omega) (fun b39 => ?_)
      refine z_raload_n h dX1_join_42 rfl ?_
      refine z_getr h dX1_join_43 fX1_22 L5 rfl ?_
      refine z_iload_n h dX1_join_46 rfl ?_
      refine z_raload_n h dX1_join_47 rfl ?_
      refine z_getr h dX1_join_48 fX1_22 L5 rfl ?_
      refine z_iload_n h dX1_join_51 rfl ?_
      refine z_iconst h dX1_join_52 ?_
      refine z_isub h dX1_join_53 ?_
      refine z_iald h dX1_join_54 L9 (by decide) (by omega) ?_
      refine z_iast h dX1_join_55 L9 (by decide) (by omega) ?_
      refine z_iinc h dX1_join_56 (by decide) rfl (zst1_3 rfl) ?_
      refine z_goto h dX1_join_59 ?_
      rw [show (k : Int) + -1 = ((k - 1 : Nat) : Int) by omega]
      refine ih (k - 1) a _ (by omega) ha (by omega) (fun c hc j => by rw [zup_ne hc]; exact h3 c hc j) (fun j hj => by rw [zup_nei (by omega)]; exact h4 j (by omega)) (fun j hj1 hj2 => ?_)
      by_cases e : j = (k : Int) - 1
      · rw [zup_eqi (by omega), h4 _ (by omega), e]
      · rw [zup_nei (by omega)]; exact h5 j (by omega) hj2
  refine z_raload_n h dX1_join_0 rfl ?_
  refine y_get 10 h dX1_join_1 fX1_93 L5 rfl rfl ?_
  refine z_bipush h dX1_join_4 (by decide) ?_
  refine z_icmp_lt h dX1_join_6 (by omega) (by omega) (fun b6 => ?_) (fun b6 => by exfalso; omega)
  refine z_raload_n h dX1_join_10 rfl ?_
  refine y_get 7 h dX1_join_11 fX1_42 L5 rfl rfl ?_
  refine z_iconst h dX1_join_14 ?_
  refine z_icmp_ne h dX1_join_15 (by omega) (by omega) (fun b15 => ?_) (fun b15 => ?_)
  · refine z_raload_n h dX1_join_27 rfl ?_
    refine y_get 10 h dX1_join_28 fX1_93 L5 rfl rfl ?_
    refine z_ist1_n h dX1_join_31 (by decide) (zst1_2 rfl) ?_
    first | rw [r1, show (line.length : Int) / 2 = ((line.length / 2 : Nat) : Int) by omega] | rw [r1]
    refine z_raload_n h dX1_join_32 rfl ?_
    refine y_get 10 h dX1_join_33 fX1_93 L5 rfl rfl ?_
    try rw [r1]
    refine z_ist1_n h dX1_join_36 (by decide) (zst1_3 rfl) ?_
    first | exact L (line.length - line.length / 2) line.length _ σ (by omega) (by rw [if_pos (by omega)]) (Nat.le_refl _) (fun _ _ _ => rfl) (fun _ _ => rfl) (fun j _ _ => by omega) | exact L 0 line.length _ σ (by omega) (by rw [if_neg (by omega)]) (Nat.le_refl _) (fun _ _ _ => rfl) (fun _ _ => rfl) (fun j _ _ => by omega)
  · refine z_raload_n h dX1_join_18 rfl ?_
    refine y_get 10 h dX1_join_19 fX1_93 L5 rfl rfl ?_
    refine z_iconst h dX1_join_22 ?_
    refine z_idiv h dX1_join_23 (by omega) (by omega) ?_
    refine z_goto h dX1_join_24 ?_
    refine z_ist1_n h dX1_join_31 (by decide) (zst1_2 rfl) ?_
    first | rw [r1, show (line.length : Int) / 2 = ((line.length / 2 : Nat) : Int) by omega] | rw [r1]
    refine z_raload_n h dX1_join_32 rfl ?_
    refine y_get 10 h dX1_join_33 fX1_93 L5 rfl rfl ?_
    try rw [r1]
    refine z_ist1_n h dX1_join_36 (by decide) (zst1_3 rfl) ?_
    first | exact L (line.length - line.length / 2) line.length _ σ (by omega) (by rw [if_pos (by omega)]) (Nat.le_refl _) (fun _ _ _ => rfl) (fun _ _ => rfl) (fun j _ _ => by omega) | exact L 0 line.length _ σ (by omega) (by rw [if_neg (by omega)]) (Nat.le_refl _) (fun _ _ _ => rfl) (fun _ _ => rfl) (fun j _ _ => by omega)
