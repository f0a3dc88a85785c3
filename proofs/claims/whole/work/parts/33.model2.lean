/-- the places that a reading of the text may change -/
def mRi (c : Nat) (i : Int) : Prop := c = 73 ∨ (c = 57 ∧ i = 18) ∨ ((c = 59 ∨ (63 ≤ c ∧ c ≤ 68)) ∧ i = 1) ∨ (60 ≤ c ∧ c ≤ 62 ∧ 10 ≤ i) ∨ ((c = 69 ∨ c = 70) ∧ 8 ≤ i ∧ i < 16)
def mRd (σ σ' : zM) : Prop := ∀ c i, ¬ mRi c i → σ' c i = σ c i
theorem mRd_rf {σ : zM} : mRd σ σ := fun _ _ _ => rfl
theorem mRd_tr {σ σ1 σ2 : zM} (h1 : mRd σ σ1) (h2 : mRd σ1 σ2) : mRd σ σ2 := fun c i h => (h2 c i h).trans (h1 c i h)
theorem mRd_up {σ σ' : zM} {c : Nat} {i v : Int} (h : mRd σ σ') (hi : mRi c i) : mRd σ (zup σ' c i v) := fun c' i' h' => by
  by_cases e : c' = c ∧ i' = i
  · exact absurd (e.1 ▸ e.2 ▸ hi) h'
  · by_cases e1 : c' = c
    · rw [zup_nei (fun z => e ⟨e1, z⟩)]; exact h c' i' h'
    · rw [zup_ne e1]; exact h c' i' h'
theorem mText_rd {σ σ' : zM} {tx : List Int} (h : mText σ tx) (hd : mRd σ σ') : mText σ' tx := mText_fr h (hd 57 0 (by unfold mRi; omega)) (fun i => hd 58 i (by unfold mRi; omega))
theorem mInv_rd {σ σ' : zM} {S : zSt} (h : mInv σ S) (hd : mRd σ σ') : mInv σ' S := mInv_of h (fun c i hu => hd c i (by unfold mUse at hu; unfold mRi; omega))
theorem pFig_b (tx : List Int) (k : Nat) : (48 ≤ tx.getD k 0 ∧ tx.getD k 0 ≤ 57 ∧ pFig tx k = tx.getD k 0 - 48) ∨ ((tx.getD k 0 < 48 ∨ 57 < tx.getD k 0) ∧ pFig tx k = -1) := by
  unfold pFig
  rw [List.getD_eq_getElem?_getD]
  cases tx[k]? with
  | none => simp
  | some x =>
    simp only [Option.getD_some]
    split
    · left; omega
    · right; omega
theorem getD_some {tx : List Int} {k : Nat} {s : Int} (hs : s ≠ 0) : tx.getD k 0 = s ↔ tx[k]? = some s := by
  rw [List.getD_eq_getElem?_getD]
  cases tx[k]? with
  | none => simp; omega
  | some x => simp
theorem c_X8_figures (σ : zM) (tx : List Int) (k mn : Nat) (hx : mText σ tx) (hk : σ 57 18 = k) (hk2 : k ≤ 301) (hmn : mn ≤ 3) : zCi mX8_figures (fun u => [zr u 57, zi mn]) σ (fun r σ' => (∀ c i, c ≠ 73 → ¬ (c = 57 ∧ i = 18) → σ' c i = σ c i) ∧ ((∃ l k', pNa tx mn k [] = some (l, k') ∧ r = 1 ∧ l.length = mn ∧ (∀ (i : Nat) v, l[i]? = some v → σ' 73 i = v ∧ 0 ≤ v ∧ v ≤ 99) ∧ σ' 57 18 = k' ∧ k' ≤ 301 ∧ (1 ≤ mn → k < k')) ∨ (pNa tx mn k [] = none ∧ r = 0))) := by
  refine zCi_mk (own := RX8) rfl (by decide +kernel) (fun w => [some (zr w 57), some (zi mn), none, none, none]) (fun _ => rfl) (fun _ => Nat.le_of_ble_eq_true rfl) ?_
  intro Γ h hr
  have tl := hx.2.1
  have L : ∀ (r : Nat) (σ1 : zM) (acc : List Int) (kj : Nat) (l3 l4 : Option Value), acc.length + r = mn → pNa tx mn k [] = pNa tx r kj acc → σ1 57 18 = kj → kj ≤ 301 → k + acc.length ≤ kj → (∀ c i, c ≠ 73 → ¬ (c = 57 ∧ i = 18) → σ1 c i = σ c i) → (∀ (i : Nat) v, acc[i]? = some v → σ1 73 i = v ∧ 0 ≤ v ∧ v ≤ 99) → zV Γ σ1 2 [some (zr (zw Γ) 57), some (zi mn), some (zi acc.length), l3, l4] [] := by
    intro r
    induction r with
    | zero =>
      intro σ1 acc kj l3 l4 h1 h2 h3 h4 h5 h6 h7
      refine z_iload_n h dX8_figures_2 rfl ?_
      refine z_iload_n h dX8_figures_3 rfl ?_
      refine z_icmp_ge h dX8_figures_4 (by omega) (by omega) (fun b4 => ?_) (fun b4 => by exfalso; omega)
      refine z_iconst h dX8_figures_136 ?_
      refine z_irZ h hr dX8_figures_137 (by first | decide | omega | simp_all) ?_
      exact ⟨h6, Or.inl ⟨acc, kj, by rw [h2]; rfl, rfl, by omega, h7, h3, h4, by omega⟩⟩
    | succ r ih =>
      intro σ1 acc kj l3 l4 h1 h2 h3 h4 h5 h6 h7
      have h2 : pNa tx mn k [] = (if (pNv tx kj).1 < 0 then none else if tx[(pNv tx kj).2]? = some (if r = 0 then 59 else 44) then pNa tx r ((pNv tx kj).2 + 1) (acc ++ [(pNv tx kj).1]) else none) := h2
      have mt : ∀ σ2 : zM, (∀ c i, c ≠ 73 → ¬ (c = 57 ∧ i = 18) → σ2 c i = σ c i) → mText σ2 tx := fun σ2 g => mText_fr hx (g 57 0 (by omega) (by omega)) (fun i => g 58 i (by omega) (by omega))
      -- one figure more
      have S : ∀ (σ2 : zM) (f v : Int) (kp : Nat), (∀ c i, c ≠ 73 → ¬ (c = 57 ∧ i = 18) → σ2 c i = σ c i) → σ2 57 18 = kp → kp ≤ 310 → 0 ≤ f → f < 3 → 0 ≤ pFig tx kp → zV Γ (zup σ2 57 18 (kp + 1)) 12 [some (zr (zw Γ) 57), some (zi mn), some (zi acc.length), some (zi (f + 1)), some (zi (10 * v + pFig tx kp))] [] → zV Γ σ2 12 [some (zr (zw Γ) 57), some (zi mn), some (zi acc.length), some (zi f), some (zi v)] [] := by
        intro σ2 f v kp g1 g2 g3 g4 g5 g6 kk
        have pf := pFig_b tx kp
        refine z_raload_n h dX8_figures_12 rfl ?_
        refine z_raload_n h dX8_figures_13 rfl ?_
        refine y_get 18 h dX8_figures_14 fX8_93 L57 rfl rfl ?_
        rw [g2]
        refine z_cVi1 h dX8_figures_17 lX8_96 vX8_byteAt rfl L57 (c_X8_byteAt _ tx (mt _ g1) kp (by omega)) rfl (Nat.le_of_ble_eq_true rfl) (by decide) (fun x σ3 g7 => ?_)
        obtain ⟨rfl, g7, rfl⟩ := g7
        refine z_i2l h dX8_figures_20 (by omega) ?_
        refine z_ldc2 (x := 48) h dX8_figures_21 kX8_100 (by decide) ?_
        refine z_ldc2 (x := 57) h dX8_figures_24 kX8_102 (by decide) ?_
        refine z_cSi3 h dX8_figures_27 lX8_83 vX8_in (c_X8_in _ (tx.getD kp 0) 48 57 (by unfold zlo; omega) (by unfold zlo; omega) (by unfold zlo; omega)) rfl (Nat.le_of_ble_eq_true rfl) (by decide) (fun x σ3 g8 => ?_)
        obtain ⟨g8, rfl⟩ := g8
        refine z_if_eq h dX8_figures_30 (by omega) (fun b30 => by exfalso; omega) (fun b30 => ?_)
        refine z_iload_n h dX8_figures_33 rfl ?_
        refine z_iconst h dX8_figures_34 ?_
        refine z_icmp_ge h dX8_figures_35 (by omega) (by omega) (fun b35 => by exfalso; omega) (fun b35 => ?_)
        refine z_bipush h dX8_figures_38 (by decide) ?_
        refine z_iload h dX8_figures_40 rfl ?_
        refine z_imul h dX8_figures_42 ?_
        refine z_raload_n h dX8_figures_43 rfl ?_
        refine z_raload_n h dX8_figures_44 rfl ?_
        refine y_get 18 h dX8_figures_45 fX8_93 L57 rfl rfl ?_
        rw [g2]
        refine z_cVi1 h dX8_figures_48 lX8_96 vX8_byteAt rfl L57 (c_X8_byteAt _ tx (mt _ g1) kp (by omega)) rfl (Nat.le_of_ble_eq_true rfl) (by decide) (fun x σ3 g9 => ?_)
        obtain ⟨rfl, g9, rfl⟩ := g9
        refine z_iadd h dX8_figures_51 ?_
        refine z_bipush h dX8_figures_52 (by decide) ?_
        refine z_isub h dX8_figures_54 ?_
        refine z_ist1 h dX8_figures_55 (by decide) (zst1_4 rfl) ?_
        refine z_iinc h dX8_figures_57 (by decide) rfl (zst1_3 rfl) ?_
        refine z_raload_n h dX8_figures_60 rfl ?_
        refine z_dup h dX8_figures_61 rfl ?_
        refine y_get 18 h dX8_figures_62 fX8_93 L57 rfl rfl ?_
        rw [g2]
        refine z_iconst h dX8_figures_65 ?_
        refine z_iadd h dX8_figures_66 ?_
        refine y_put 18 h dX8_figures_67 fX8_93 pX8_18 L57 rfl rfl ?_
        refine z_goto h dX8_figures_70 ?_
        rw [show 10 * v + tx.getD kp 0 - 48 = 10 * v + pFig tx kp by omega]
        exact kk
      -- no figure more
      have T : ∀ (σ2 : zM) (f v : Int) (kp : Nat), (∀ c i, c ≠ 73 → ¬ (c = 57 ∧ i = 18) → σ2 c i = σ c i) → σ2 57 18 = kp → kp ≤ 310 → 0 ≤ f → f ≤ 3 → (f = 3 ∨ pFig tx kp < 0) → zV Γ σ2 73 [some (zr (zw Γ) 57), some (zi mn), some (zi acc.length), some (zi f), some (zi v)] [] → zV Γ σ2 12 [some (zr (zw Γ) 57), some (zi mn), some (zi acc.length), some (zi f), some (zi v)] [] := by
        intro σ2 f v kp g1 g2 g3 g4 g5 g6 kk
        have pf := pFig_b tx kp
        refine z_raload_n h dX8_figures_12 rfl ?_
        refine z_raload_n h dX8_figures_13 rfl ?_
        refine y_get 18 h dX8_figures_14 fX8_93 L57 rfl rfl ?_
        rw [g2]
        refine z_cVi1 h dX8_figures_17 lX8_96 vX8_byteAt rfl L57 (c_X8_byteAt _ tx (mt _ g1) kp (by omega)) rfl (Nat.le_of_ble_eq_true rfl) (by decide) (fun x σ3 g7 => ?_)
        obtain ⟨rfl, g7, rfl⟩ := g7
        refine z_i2l h dX8_figures_20 (by omega) ?_
        refine z_ldc2 (x := 48) h dX8_figures_21 kX8_100 (by decide) ?_
        refine z_ldc2 (x := 57) h dX8_figures_24 kX8_102 (by decide) ?_
        refine z_cSi3 h dX8_figures_27 lX8_83 vX8_in (c_X8_in _ (tx.getD kp 0) 48 57 (by unfold zlo; omega) (by unfold zlo; omega) (by unfold zlo; omega)) rfl (Nat.le_of_ble_eq_true rfl) (by decide) (fun x σ3 g8 => ?_)
        obtain ⟨g8, rfl⟩ := g8
        refine z_if_eq h dX8_figures_30 (by omega) (fun b30 => ?_) (fun b30 => ?_)
        · exact kk
        · refine z_iload_n h dX8_figures_33 rfl ?_
          refine z_iconst h dX8_figures_34 ?_
          refine z_icmp_ge h dX8_figures_35 (by omega) (by omega) (fun b35 => ?_) (fun b35 => by exfalso; omega)
          exact kk
      -- behind the figures
      have U : ∀ (σ2 : zM) (f v : Int) (kp : Nat), (∀ c i, c ≠ 73 → ¬ (c = 57 ∧ i = 18) → σ2 c i = σ c i) → (∀ i, σ2 73 i = σ1 73 i) → σ2 57 18 = kp → kp ≤ 310 → kj ≤ kp → ((f = 1 ∨ f = 2) ∧ 0 ≤ v ∧ v ≤ 99 ∧ pNv tx kj = (v, kp)) ∨ ((f = 0 ∨ f = 3) ∧ pNa tx mn k [] = none) → zV Γ σ2 73 [some (zr (zw Γ) 57), some (zi mn), some (zi acc.length), some (zi f), some (zi v)] [] := by
        intro σ2 f v kp g1 g1' g2 g3 g3' g4
        have rt : ∀ q : Prop, (pNa tx mn k [] = none) → ((∀ c i, c ≠ 73 → ¬ (c = 57 ∧ i = 18) → σ2 c i = σ c i) ∧ (q ∨ (pNa tx mn k [] = none ∧ (0 : Int) = 0))) := fun q z => ⟨g1, Or.inr ⟨z, rfl⟩⟩
        refine z_iload_n h dX8_figures_73 rfl ?_
        refine z_i2l h dX8_figures_74 (by omega) ?_
        refine z_lconst (x := 1) h dX8_figures_75 (by decide) ?_
        refine z_ldc2 (x := 2) h dX8_figures_76 kX8_104 (by decide) ?_
        refine z_cSi3 h dX8_figures_79 lX8_83 vX8_in (c_X8_in _ f 1 2 (by unfold zlo; omega) (by unfold zlo; omega) (by unfold zlo; omega)) rfl (Nat.le_of_ble_eq_true rfl) (by decide) (fun x σ3 g8 => ?_)
        obtain ⟨g8, rfl⟩ := g8
        refine z_if_eq h dX8_figures_82 (by omega) (fun b82 => ?_) (fun b82 => ?_)
        · refine z_iconst h dX8_figures_110 ?_
          refine z_irZ h hr dX8_figures_111 (by decide) ?_
          exact rt _ (by rcases g4 with ⟨g4, -⟩ | ⟨-, g4⟩; (exfalso; omega); exact g4)
        · rcases g4 with g4 | ⟨g4, -⟩
          rotate_left
          · exfalso; omega
          obtain ⟨g4, v0, v9, g5⟩ := g4
          rw [g5] at h2
          have h2 : pNa tx mn k [] = (if v < 0 then none else if tx[kp]? = some (if r = 0 then 59 else 44) then pNa tx r (kp + 1) (acc ++ [v]) else none) := h2
          rw [if_neg (by omega)] at h2
          refine z_raload_n h dX8_figures_85 rfl ?_
          refine z_raload_n h dX8_figures_86 rfl ?_
          refine y_get 18 h dX8_figures_87 fX8_93 L57 rfl rfl ?_
          rw [g2]
          refine z_cVi1 h dX8_figures_90 lX8_96 vX8_byteAt rfl L57 (c_X8_byteAt _ tx (mt _ g1) kp (by omega)) rfl (Nat.le_of_ble_eq_true rfl) (by decide) (fun x σ3 g9 => ?_)
          obtain ⟨rfl, g9, rfl⟩ := g9
          refine z_iload_n h dX8_figures_93 rfl ?_
          refine z_iload_n h dX8_figures_94 rfl ?_
          refine z_iconst h dX8_figures_95 ?_
          refine z_isub h dX8_figures_96 ?_
          refine z_icmp_ge h dX8_figures_97 (by omega) (by omega) (fun b97 => ?_) (fun b97 => ?_)
          · refine z_bipush h dX8_figures_105 (by decide) ?_
            refine z_icmp_eq h dX8_figures_107 (by omega) (by omega) (fun b107 => ?_) (fun b107 => ?_)
            · have hs : tx[kp]? = some (if r = 0 then 59 else 44) := (getD_some (by split <;> omega)).mp (by split <;> omega)
              rw [if_pos hs] at h2
              have hlt := (List.getElem?_eq_some_iff.mp hs).1
              refine z_raload_n h dX8_figures_112 rfl ?_
              refine z_getr h dX8_figures_113 fX8_55 L57 rfl ?_
              refine z_iload_n h dX8_figures_116 rfl ?_
              refine z_iload h dX8_figures_117 rfl ?_
              refine z_iast h dX8_figures_119 L73 (by decide) (by omega) ?_
              refine z_raload_n h dX8_figures_120 rfl ?_
              refine z_dup h dX8_figures_121 rfl ?_
              refine y_get 18 h dX8_figures_122 fX8_93 L57 rfl rfl ?_
              try simp (disch := omega) only [zup_eq, zup_ne, zup_nei]
              rw [g2]
              refine z_iconst h dX8_figures_125 ?_
              refine z_iadd h dX8_figures_126 ?_
              refine y_put 18 h dX8_figures_127 fX8_93 pX8_18 L57 rfl rfl ?_
              refine z_iinc h dX8_figures_130 (by decide) rfl (zst1_2 rfl) ?_
              refine z_goto h dX8_figures_133 ?_
              have := ih (zup (zup σ3 73 acc.length v) 57 18 (kp + 1)) (acc ++ [v]) (kp + 1) (some (zi f)) (some (zi v)) (by simp; omega) h2 (by rw [zup_eq]; rfl) (by omega) (by simp; omega) (fun c i c1 c2 => by rw [show zup (zup σ3 73 acc.length v) 57 18 (kp + 1) c i = σ3 c i by by_cases e : c = 57; (rw [zup_nei (by omega), zup_ne c1]); (rw [zup_ne e, zup_ne c1])]; exact g1 c i c1 c2) (fun i u hu => ?_)
              · rw [List.length_append, List.length_singleton] at this
                exact this
              · rw [zup_ne (by omega)]
                by_cases e : i < acc.length
                · rw [List.getElem?_append_left e] at hu
                  rw [zup_nei (by omega), g1']
                  exact h7 i u hu
                · have e2 := (List.getElem?_eq_some_iff.mp hu).1
                  simp at e2
                  have e3 : i = acc.length := by omega
                  subst e3
                  simp at hu
                  subst hu
                  rw [zup_eq]
                  exact ⟨rfl, v0, v9⟩
            · refine z_iconst h dX8_figures_110 ?_
              refine z_irZ h hr dX8_figures_111 (by first | decide | omega | simp_all) ?_
              refine rt _ ?_
              rw [h2]
              refine if_neg (fun z => ?_)
              have z := (getD_some (by split <;> omega)).mpr z
              split at z <;> omega
          · refine z_bipush h dX8_figures_100 (by decide) ?_
            refine z_goto h dX8_figures_102 ?_
            refine z_icmp_eq h dX8_figures_107 (by omega) (by omega) (fun b107 => ?_) (fun b107 => ?_)
            · have hs : tx[kp]? = some (if r = 0 then 59 else 44) := (getD_some (by split <;> omega)).mp (by split <;> omega)
              rw [if_pos hs] at h2
              have hlt := (List.getElem?_eq_some_iff.mp hs).1
              refine z_raload_n h dX8_figures_112 rfl ?_
              refine z_getr h dX8_figures_113 fX8_55 L57 rfl ?_
              refine z_iload_n h dX8_figures_116 rfl ?_
              refine z_iload h dX8_figures_117 rfl ?_
              refine z_iast h dX8_figures_119 L73 (by decide) (by omega) ?_
              refine z_raload_n h dX8_figures_120 rfl ?_
              refine z_dup h dX8_figures_121 rfl ?_
              refine y_get 18 h dX8_figures_122 fX8_93 L57 rfl rfl ?_
              try simp (disch := omega) only [zup_eq, zup_ne, zup_nei]
              rw [g2]
              refine z_iconst h dX8_figures_125 ?_
              refine z_iadd h dX8_figures_126 ?_
              refine y_put 18 h dX8_figures_127 fX8_93 pX8_18 L57 rfl rfl ?_
              refine z_iinc h dX8_figures_130 (by decide) rfl (zst1_2 rfl) ?_
              refine z_goto h dX8_figures_133 ?_
              have := ih (zup (zup σ3 73 acc.length v) 57 18 (kp + 1)) (acc ++ [v]) (kp + 1) (some (zi f)) (some (zi v)) (by simp; omega) h2 (by rw [zup_eq]; rfl) (by omega) (by simp; omega) (fun c i c1 c2 => by rw [show zup (zup σ3 73 acc.length v) 57 18 (kp + 1) c i = σ3 c i by by_cases e : c = 57; (rw [zup_nei (by omega), zup_ne c1]); (rw [zup_ne e, zup_ne c1])]; exact g1 c i c1 c2) (fun i u hu => ?_)
              · rw [List.length_append, List.length_singleton] at this
                exact this
              · rw [zup_ne (by omega)]
                by_cases e : i < acc.length
                · rw [List.getElem?_append_left e] at hu
                  rw [zup_nei (by omega), g1']
                  exact h7 i u hu
                · have e2 := (List.getElem?_eq_some_iff.mp hu).1
                  simp at e2
                  have e3 : i = acc.length := by omega
                  subst e3
                  simp at hu
                  subst hu
                  rw [zup_eq]
                  exact ⟨rfl, v0, v9⟩
            · refine z_iconst h dX8_figures_110 ?_
              refine z_irZ h hr dX8_figures_111 (by first | decide | omega | simp_all) ?_
              refine rt _ ?_
              rw [h2]
              refine if_neg (fun z => ?_)
              have z := (getD_some (by split <;> omega)).mpr z
              split at z <;> omega
      have p0 := pFig_b tx kj
      have p1 := pFig_b tx (kj + 1)
      have p2 := pFig_b tx (kj + 2)
      have nv : pNv tx kj = (if pFig tx kj < 0 then (-1, kj) else if pFig tx (kj + 1) < 0 then (pFig tx kj, kj + 1) else (10 * pFig tx kj + pFig tx (kj + 1), kj + 2)) := rfl
      have up : ∀ (σ2 : zM) (v : Int), (∀ c i, c ≠ 73 → ¬ (c = 57 ∧ i = 18) → σ2 c i = σ c i) → ∀ c i, c ≠ 73 → ¬ (c = 57 ∧ i = 18) → zup σ2 57 18 v c i = σ c i := fun σ2 v g c i c1 c2 => by
        by_cases e : c = 57
        · rw [zup_nei (by omega)]; exact g c i c1 c2
        · rw [zup_ne e]; exact g c i c1 c2
      refine z_iload_n h dX8_figures_2 rfl ?_
      refine z_iload_n h dX8_figures_3 rfl ?_
      refine z_icmp_ge h dX8_figures_4 (by omega) (by omega) (fun b4 => by exfalso; omega) (fun b4 => ?_)
      refine z_iconst h dX8_figures_7 ?_
      refine z_ist1_n h dX8_figures_8 (by decide) (zst1_3 rfl) ?_
      refine z_iconst h dX8_figures_9 ?_
      refine z_ist1 h dX8_figures_10 (by decide) (zst1_4 rfl) ?_
      by_cases e0 : pFig tx kj < 0
      · rw [if_pos e0] at nv
        refine T σ1 0 0 kj h6 h3 (by omega) (by omega) (by omega) (Or.inr e0) (U σ1 0 0 kj h6 (fun _ => rfl) h3 (by omega) (by omega) (Or.inr ⟨Or.inl rfl, ?_⟩))
        rw [h2, nv]; rfl
      rw [if_neg e0] at nv
      refine S σ1 0 0 kj h6 h3 (by omega) (by omega) (by omega) (by omega) ?_
      rw [show (10 : Int) * 0 + pFig tx kj = pFig tx kj by omega, show (0 : Int) + 1 = 1 by omega]
      by_cases e1 : pFig tx (kj + 1) < 0
      · rw [if_pos e1] at nv
        exact T _ 1 _ (kj + 1) (up _ _ h6) (by rw [zup_eq]; rfl) (by omega) (by omega) (by omega) (Or.inr e1) (U _ 1 _ (kj + 1) (up _ _ h6) (fun i => zup_ne (by omega)) (by rw [zup_eq]; rfl) (by omega) (by omega) (Or.inl ⟨Or.inl rfl, by omega, by omega, nv⟩))
      rw [if_neg e1] at nv
      refine S _ 1 _ (kj + 1) (up _ _ h6) (by rw [zup_eq]; rfl) (by omega) (by omega) (by omega) (by omega) ?_
      rw [show (1 : Int) + 1 = 2 by omega]
      by_cases e2 : pFig tx (kj + 2) < 0
      · exact T _ 2 _ (kj + 2) (up _ _ (up _ _ h6)) (by rw [zup_eq]; rfl) (by omega) (by omega) (by omega) (Or.inr e2) (U _ 2 _ (kj + 2) (up _ _ (up _ _ h6)) (fun i => by rw [zup_ne (by omega), zup_ne (by omega)]) (by rw [zup_eq]; rfl) (by omega) (by omega) (Or.inl ⟨Or.inr rfl, by omega, by omega, nv⟩))
      refine S _ 2 _ (kj + 2) (up _ _ (up _ _ h6)) (by rw [zup_eq]; rfl) (by omega) (by omega) (by omega) (by omega) ?_
      rw [show (2 : Int) + 1 = 3 by omega]
      refine T _ 3 _ (kj + 3) (up _ _ (up _ _ (up _ _ h6))) (by rw [zup_eq]; rfl) (by omega) (by omega) (by omega) (Or.inl rfl) (U _ 3 _ (kj + 3) (up _ _ (up _ _ (up _ _ h6))) (fun i => by rw [zup_ne (by omega), zup_ne (by omega), zup_ne (by omega)]) (by rw [zup_eq]; rfl) (by omega) (by omega) (Or.inr ⟨Or.inr rfl, ?_⟩))
      rw [h2, nv]
      show (if 10 * pFig tx kj + pFig tx (kj + 1) < 0 then none else if tx[kj + 2]? = some (if r = 0 then 59 else 44) then _ else none) = none
      rw [if_neg (by omega)]
      refine if_neg (fun z => ?_)
      have z := (getD_some (by split <;> omega)).mpr z
      split at z <;> omega
  refine z_iconst h dX8_figures_0 ?_
  refine z_ist1_n h dX8_figures_1 (by decide) (zst1_2 rfl) ?_
  exact L mn σ [] k none none (by simp) rfl hk hk2 (by simp) (fun _ _ _ _ => rfl) (by simp)
