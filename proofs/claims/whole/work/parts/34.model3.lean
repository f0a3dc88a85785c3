theorem fig_at {σ : zM} {l : List Int} (h : ∀ (i : Nat) v, l[i]? = some v → σ 73 i = v ∧ 0 ≤ v ∧ v ≤ 99) (j : Nat) (hj : j < l.length) : σ 73 j = l.getD j 0 ∧ 0 ≤ l.getD j 0 ∧ l.getD j 0 ≤ 99 := by
  rw [List.getD_eq_getElem?_getD, List.getElem?_eq_getElem hj]
  exact h j _ (List.getElem?_eq_getElem hj)
theorem pItem_at {tx : List Int} {k : Nat} {P : zP} (h : k < tx.length) : pItem tx k P = if pOf (tx.getD k 0) = 0 then none else pIt3 P (tx.getD k 0) (pNa tx (pOf (tx.getD k 0)) (k + 1) []) := by
  unfold pItem
  rw [List.getD_eq_getElem?_getD, List.getElem?_eq_getElem h]
  rfl
theorem it_no {tx : List Int} {k mn : Nat} {P : zP} {lt : Int} (hI : pItem tx k P = pIt3 P lt (pNa tx mn (k + 1) [])) (h : pNa tx mn (k + 1) [] = none) : pItem tx k P = none := by rw [hI, h]; rfl
theorem it_so {tx : List Int} {k mn : Nat} {P : zP} {lt : Int} {l : List Int} {k' : Nat} (hI : pItem tx k P = pIt3 P lt (pNa tx mn (k + 1) [])) (h : pNa tx mn (k + 1) [] = some (l, k')) : pItem tx k P = (pTake P lt (l.getD 0 0) (l.getD 1 0) (l.getD 2 0)).map (fun P' => (P', k')) := by rw [hI, h]; rfl
theorem mPlan_person {σ σ' : zM} {P : zP} (h : mPlan σ 1 P) (a b c : Int) (hn : P.1.length < 10) (ha : 0 ≤ a ∧ a ≤ 99) (hb : b = 0 ∨ b = 1) (hc : 1 ≤ c ∧ c ≤ 99) (h0 : σ' 59 1 = (P.1.length : Int) + 1) (h1 : σ' 60 (10 + P.1.length) = a) (h2 : σ' 61 (10 + P.1.length) = b) (h3 : σ' 62 (10 + P.1.length) = c) (hf : ∀ (c : Nat) (i : Int), ¬ (c = 59 ∧ i = 1) → ¬ (60 ≤ c ∧ c ≤ 62 ∧ i = 10 + P.1.length) → σ' c i = σ c i) : mPlan σ' 1 (P.1 ++ [(a, b, c)], P.2) := by
  obtain ⟨q1, q2, q3, q4, q5, q6, q7, q8⟩ := h
  refine ⟨by rw [h0]; simp, fun k p hk => ?_, mCr_fr q3 (hf 68 1 (by omega) (by omega)) (fun k _ _ => ⟨hf 69 _ (by omega) (by omega), hf 70 _ (by omega) (by omega)⟩), ?_, ⟨by simp; omega, fun p hp => ?_, fun x hx => ?_, q8⟩⟩
  · by_cases e : k < P.1.length
    · have hk : P.1[k]? = some p := by rw [← List.getElem?_append_left e]; exact hk
      rw [hf 60 _ (by omega) (by omega), hf 61 _ (by omega) (by omega), hf 62 _ (by omega) (by omega)]
      exact q2 k p hk
    · have e2 := (List.getElem?_eq_some_iff.mp hk).1
      simp at e2
      have e3 : k = P.1.length := by omega
      subst e3
      simp at hk
      subst hk
      exact ⟨h1, h2, h3⟩
  · rw [hf 63 1 (by omega) (by omega), hf 64 1 (by omega) (by omega), hf 65 1 (by omega) (by omega), hf 66 1 (by omega) (by omega), hf 67 1 (by omega) (by omega)]
    exact q4
  · rcases List.mem_append.mp hp with hp | hp
    · exact q6 p hp
    · simp at hp
      subst hp
      exact ⟨ha.1, ha.2, hb, hc.1, hc.2⟩
  · have := q7 x hx
    simp
    omega
theorem mCr_add {σ σ' : zM} {β : Int} {l : List (Int × Int)} (h : mCr σ β l) (a b : Int) (hn : l.length < 8) (hb : 0 ≤ b ∧ b < 100) (h0 : σ' 68 β = (l.length : Int) + 1) (h1 : σ' 69 (8 * β + l.length) = a) (h2 : σ' 70 (8 * β + l.length) = b) (hf : ∀ k : Int, 0 ≤ k → k < l.length → σ' 69 (8 * β + k) = σ 69 (8 * β + k) ∧ σ' 70 (8 * β + k) = σ 70 (8 * β + k)) : mCr σ' β (l ++ [(a, b)]) := by
  refine ⟨by rw [h0]; simp, by simp; omega, fun k p hk => ?_⟩
  by_cases e : k < l.length
  · have hk : l[k]? = some p := by rw [← List.getElem?_append_left e]; exact hk
    rw [(hf k (by omega) (by omega)).1, (hf k (by omega) (by omega)).2]
    exact h.2.2 k p hk
  · have e2 := (List.getElem?_eq_some_iff.mp hk).1
    simp at e2
    have e3 : k = l.length := by omega
    subst e3
    simp at hk
    subst hk
    exact ⟨h1, h2, hb.1, hb.2⟩
theorem mPlan_of {σ σ' : zM} {β : Int} {P : zP} (h : mPlan σ β P) (q n d b l : Int) (hf : ∀ c i, c < 63 ∨ 67 < c → σ' c i = σ c i) (h6 : σ' 63 β = q) (h7 : σ' 64 β = n) (h8 : σ' 65 β = d) (h9 : σ' 66 β = b) (h10 : σ' 67 β = l) (ok : (0 ≤ q ∧ q ≤ 30) ∧ (1 ≤ n ∧ n ≤ 9) ∧ (1 ≤ d ∧ d ≤ 9) ∧ (0 ≤ b ∧ b ≤ 99) ∧ (0 ≤ l ∧ l ≤ 3)) : mPlan σ' β (P.1, P.2.1, q, n, d, b, l) := by
  obtain ⟨q1, q2, q3, q4, q6⟩ := h
  refine ⟨by rw [hf 59 _ (by omega)]; exact q1, fun k p hk => ?_, mCr_fr q3 (hf 68 _ (by omega)) (fun k _ _ => ⟨hf 69 _ (by omega), hf 70 _ (by omega)⟩), ⟨h6, h7, h8, h9, h10⟩, ⟨q6.1, q6.2.1, q6.2.2.1, ok⟩⟩
  rw [hf 60 _ (by omega), hf 61 _ (by omega), hf 62 _ (by omega)]; exact q2 k p hk
theorem c_X8_item (σ : zM) (tx : List Int) (k : Nat) (P : zP) (hP : mPlan σ 1 P) (hx : mText σ tx) (hk : σ 57 18 = k) (hk2 : k < tx.length) : zCi mX8_item (fun u => [zr u 57]) σ (fun r σ' => mRd σ σ' ∧ ((∃ P' k', pItem tx k P = some (P', k') ∧ r = 1 ∧ mPlan σ' 1 P' ∧ σ' 57 18 = k' ∧ k' ≤ 301 ∧ k < k') ∨ (pItem tx k P = none ∧ r = 0))) := by
  refine zCi_mk (own := RX8) rfl (by decide +kernel) (fun w => [some (zr w 57), none]) (fun _ => rfl) (fun _ => Nat.le_of_ble_eq_true rfl) ?_
  intro Γ h hr
  have tl := hx.2.1
  have hIa := pItem_at (P := P) hk2
  by_cases e1 : tx.getD k 0 = 112
  · have hI : pItem tx k P = pIt3 P 112 (pNa tx 3 (k + 1) []) := by rw [hIa, e1]; rfl
    refine z_raload_n h dX8_item_0 rfl ?_
    refine z_raload_n h dX8_item_1 rfl ?_
    refine y_get 18 h dX8_item_2 fX8_93 L57 rfl rfl ?_
    rw [hk]
    refine z_cVi1 h dX8_item_5 lX8_96 vX8_byteAt rfl L57 (c_X8_byteAt σ tx hx k (by omega)) rfl (Nat.le_of_ble_eq_true rfl) (by decide) (fun x σ1 g1 => ?_)
    obtain ⟨rfl, g1, rfl⟩ := g1
    refine z_ist1_n h dX8_item_8 (by decide) (zst1_1 rfl) ?_
    refine z_raload_n h dX8_item_9 rfl ?_
    refine z_dup h dX8_item_10 rfl ?_
    refine y_get 18 h dX8_item_11 fX8_93 L57 rfl rfl ?_
    rw [hk]
    refine z_iconst h dX8_item_14 ?_
    refine z_iadd h dX8_item_15 ?_
    refine y_put 18 h dX8_item_16 fX8_93 pX8_18 L57 rfl rfl ?_
    refine z_iload_n h dX8_item_19 rfl ?_
    refine z_tabIn (t := 108) h (112) dX8_item_20 (e1) (by decide) (by rfl) (by decide) ?_
    refine z_raload_n h dX8_item_108 rfl ?_
    refine z_iconst h dX8_item_109 ?_
    refine z_cVi1 h dX8_item_110 lX8_106 vX8_figures rfl L57 (c_X8_figures (zup σ1 57 18 (k + 1)) tx (k + 1) 3 (mText_fr hx (zup_nei (by omega)) (fun i => zup_ne (by omega))) (by rw [zup_eq]; rfl) (by omega) (by omega)) rfl (Nat.le_of_ble_eq_true rfl) (by decide) (fun v σ2 g2 => ?_)
    obtain ⟨g3, g4⟩ := g2
    have hv : v = 0 ∨ v = 1 := by rcases g4 with ⟨l, k', a1, rfl, -⟩ | ⟨a1, rfl⟩ <;> simp
    have g5 : mRd σ1 σ2 := fun c i hc => by
      rw [g3 c i (by unfold mRi at hc; omega) (by unfold mRi at hc; omega)]
      by_cases e : c = 57
      · rw [zup_nei (by unfold mRi at hc; omega)]
      · rw [zup_ne e]
    have g6 : ∀ c i, c ≠ 57 → c ≠ 73 → σ2 c i = σ1 c i := fun c i c1 c2 => by rw [g3 c i c2 (by omega), zup_ne c1]
    have g7 : mPlan σ2 1 P := mPlan_fr hP (fun c hc => g6 c _ (by omega) (by omega)) (fun c j a b _ => g6 c _ (by omega) (by omega)) (mCr_fr hP.2.2.1 (g6 68 _ (by omega) (by omega)) (fun j _ _ => ⟨g6 69 _ (by omega) (by omega), g6 70 _ (by omega) (by omega)⟩))
    have q1 := g7.1
    have q2 := g7.2.2.2.2.1
    have q3 := g7.2.2.1.1
    have q4 := g7.2.2.1.2.1
    have q5 := g7.2.2.2.1
    have q6 := g7.2.2.2.2
    have no : ∀ q : Prop, pItem tx k P = none → (mRd σ1 σ2 ∧ (q ∨ (pItem tx k P = none ∧ (0 : Int) = 0))) := fun q z => ⟨g5, Or.inr ⟨z, rfl⟩⟩
    refine z_if_eq h dX8_item_113 (by omega) (fun b113 => ?_) (fun b113 => ?_)
    · refine z_iconst h dX8_item_146 ?_
      refine z_irZ h hr dX8_item_147 (by decide) ?_
      exact no _ (it_no hI (by rcases g4 with ⟨l, k', a1, a2, -⟩ | ⟨a1, -⟩; (exfalso; omega); exact a1))
    · rcases g4 with ⟨l, k', a1, -, a3, a4, a5, a6, a7⟩ | ⟨-, a1⟩
      rotate_left
      · exfalso; omega
      have hJ := it_so hI a1
      have hT : pTake P 112 (l.getD 0 0) (l.getD 1 0) (l.getD 2 0) = (if P.1.length < 10 ∧ l.getD 1 0 ≤ 1 ∧ 1 ≤ l.getD 2 0 then some (P.1 ++ [(l.getD 0 0, l.getD 1 0, l.getD 2 0)], P.2) else none) := by unfold pTake; rw [if_pos rfl]
      rw [hT] at hJ
      have ak := a7 (by omega)
      have t0 : σ2 73 0 = l.getD 0 0 ∧ 0 ≤ l.getD 0 0 ∧ l.getD 0 0 ≤ 99 := fig_at a4 0 (by omega)
      have t1 : σ2 73 1 = l.getD 1 0 ∧ 0 ≤ l.getD 1 0 ∧ l.getD 1 0 ≤ 99 := fig_at a4 1 (by omega)
      have t2 : σ2 73 2 = l.getD 2 0 ∧ 0 ≤ l.getD 2 0 ∧ l.getD 2 0 ≤ 99 := fig_at a4 2 (by omega)
      refine z_raload_n h dX8_item_116 rfl ?_
      refine z_getr h dX8_item_117 fX8_13 L57 rfl ?_
      refine z_iconst h dX8_item_120 ?_
      refine z_iald h dX8_item_121 L59 (by decide) (by omega) ?_
      rw [q1]
      refine z_bipush h dX8_item_122 (by decide) ?_
      refine z_icmp_eq h dX8_item_124 (by omega) (by omega) (fun b124 => ?_) (fun b124 => ?_)
      · refine z_iconst h dX8_item_146 ?_
        refine z_irZ h hr dX8_item_147 (by first | decide | omega | simp_all) ?_
        exact no _ (by rw [hJ, if_neg (by omega)]; rfl)
      · refine z_raload_n h dX8_item_127 rfl ?_
        refine z_getr h dX8_item_128 fX8_55 L57 rfl ?_
        refine z_iconst h dX8_item_131 ?_
        refine z_iald h dX8_item_132 L73 (by decide) (by omega) ?_
        rw [t1.1]
        refine z_iconst h dX8_item_133 ?_
        refine z_icmp_gt h dX8_item_134 (by omega) (by omega) (fun b134 => ?_) (fun b134 => ?_)
        · refine z_iconst h dX8_item_146 ?_
          refine z_irZ h hr dX8_item_147 (by first | decide | omega | simp_all) ?_
          exact no _ (by rw [hJ, if_neg (by omega)]; rfl)
        · refine z_raload_n h dX8_item_137 rfl ?_
          refine z_getr h dX8_item_138 fX8_55 L57 rfl ?_
          refine z_iconst h dX8_item_141 ?_
          refine z_iald h dX8_item_142 L73 (by decide) (by omega) ?_
          rw [t2.1]
          refine z_if_ne h dX8_item_143 (by omega) (fun b143 => ?_) (fun b143 => ?_)
          · refine z_raload_n h dX8_item_148 rfl ?_
            refine z_getr h dX8_item_149 fX8_16 L57 rfl ?_
            refine z_bipush h dX8_item_152 (by decide) ?_
            refine z_raload_n h dX8_item_154 rfl ?_
            refine z_getr h dX8_item_155 fX8_13 L57 rfl ?_
            refine z_iconst h dX8_item_158 ?_
            refine z_iald h dX8_item_159 L59 (by decide) (by omega) ?_
            rw [q1]
            refine z_iadd h dX8_item_160 ?_
            refine z_raload_n h dX8_item_161 rfl ?_
            refine z_getr h dX8_item_162 fX8_55 L57 rfl ?_
            refine z_iconst h dX8_item_165 ?_
            refine z_iald h dX8_item_166 L73 (by decide) (by omega) ?_
            rw [t0.1]
            refine z_iast h dX8_item_167 L60 (by decide) (by omega) ?_
            refine z_raload_n h dX8_item_168 rfl ?_
            refine z_getr h dX8_item_169 fX8_19 L57 rfl ?_
            refine z_bipush h dX8_item_172 (by decide) ?_
            refine z_raload_n h dX8_item_174 rfl ?_
            refine z_getr h dX8_item_175 fX8_13 L57 rfl ?_
            refine z_iconst h dX8_item_178 ?_
            refine z_iald h dX8_item_179 L59 (by decide) (by omega) ?_
            try simp (disch := omega) only [zup_eq, zup_ne, zup_nei]
            rw [q1]
            refine z_iadd h dX8_item_180 ?_
            refine z_raload_n h dX8_item_181 rfl ?_
            refine z_getr h dX8_item_182 fX8_55 L57 rfl ?_
            refine z_iconst h dX8_item_185 ?_
            refine z_iald h dX8_item_186 L73 (by decide) (by omega) ?_
            try simp (disch := omega) only [zup_eq, zup_ne, zup_nei]
            rw [t1.1]
            refine z_iast h dX8_item_187 L61 (by decide) (by omega) ?_
            refine z_raload_n h dX8_item_188 rfl ?_
            refine z_getr h dX8_item_189 fX8_22 L57 rfl ?_
            refine z_bipush h dX8_item_192 (by decide) ?_
            refine z_raload_n h dX8_item_194 rfl ?_
            refine z_getr h dX8_item_195 fX8_13 L57 rfl ?_
            refine z_iconst h dX8_item_198 ?_
            refine z_iald h dX8_item_199 L59 (by decide) (by omega) ?_
            try simp (disch := omega) only [zup_eq, zup_ne, zup_nei]
            rw [q1]
            refine z_iadd h dX8_item_200 ?_
            refine z_raload_n h dX8_item_201 rfl ?_
            refine z_getr h dX8_item_202 fX8_55 L57 rfl ?_
            refine z_iconst h dX8_item_205 ?_
            refine z_iald h dX8_item_206 L73 (by decide) (by omega) ?_
            try simp (disch := omega) only [zup_eq, zup_ne, zup_nei]
            rw [t2.1]
            refine z_iast h dX8_item_207 L62 (by decide) (by omega) ?_
            refine z_raload_n h dX8_item_208 rfl ?_
            refine z_getr h dX8_item_209 fX8_13 L57 rfl ?_
            refine z_iconst h dX8_item_212 ?_
            refine z_dup2 h dX8_item_213 rfl rfl ?_
            refine z_iald h dX8_item_214 L59 (by decide) (by omega) ?_
            try simp (disch := omega) only [zup_eq, zup_ne, zup_nei]
            rw [q1]
            refine z_iconst h dX8_item_215 ?_
            refine z_iadd h dX8_item_216 ?_
            refine z_iast h dX8_item_217 L59 (by decide) (by omega) ?_
            refine z_iconst h dX8_item_218 ?_
            refine z_irZ h hr dX8_item_219 (by first | decide | omega | simp_all) ?_
            refine ⟨mRd_up (mRd_up (mRd_up (mRd_up g5 (by unfold mRi; omega)) (by unfold mRi; omega)) (by unfold mRi; omega)) (by unfold mRi; omega), Or.inl ⟨_, k', by rw [hJ, if_pos (by omega)]; rfl, rfl, mPlan_person g7 (l.getD 0 0) (l.getD 1 0) (l.getD 2 0) (by omega) (by omega) (by omega) (by omega) ?_ ?_ ?_ ?_ (fun c i c1 c2 => ?_), ?_, a6, by omega⟩⟩
            · rw [zup_eq]
            · simp (disch := omega) only [zup_eq, zup_ne]
            · simp (disch := omega) only [zup_eq, zup_ne]
            · simp (disch := omega) only [zup_eq, zup_ne]
            · by_cases z1 : c = 59
              · subst z1; simp (disch := omega) only [zup_ne, zup_nei]
              · by_cases z2 : 60 ≤ c ∧ c ≤ 62
                · simp (disch := omega) only [zup_ne, zup_nei]
                · simp (disch := omega) only [zup_ne]
            · simp (disch := omega) only [zup_ne]; exact a5
          · refine z_iconst h dX8_item_146 ?_
            refine z_irZ h hr dX8_item_147 (by first | decide | omega | simp_all) ?_
            exact no _ (by rw [hJ, if_neg (by omega)]; rfl)
  by_cases e2 : tx.getD k 0 = 99
  · have hI : pItem tx k P = pIt3 P 99 (pNa tx 2 (k + 1) []) := by rw [hIa, e2]; rfl
    refine z_raload_n h dX8_item_0 rfl ?_
    refine z_raload_n h dX8_item_1 rfl ?_
    refine y_get 18 h dX8_item_2 fX8_93 L57 rfl rfl ?_
    rw [hk]
    refine z_cVi1 h dX8_item_5 lX8_96 vX8_byteAt rfl L57 (c_X8_byteAt σ tx hx k (by omega)) rfl (Nat.le_of_ble_eq_true rfl) (by decide) (fun x σ1 g1 => ?_)
    obtain ⟨rfl, g1, rfl⟩ := g1
    refine z_ist1_n h dX8_item_8 (by decide) (zst1_1 rfl) ?_
    refine z_raload_n h dX8_item_9 rfl ?_
    refine z_dup h dX8_item_10 rfl ?_
    refine y_get 18 h dX8_item_11 fX8_93 L57 rfl rfl ?_
    rw [hk]
    refine z_iconst h dX8_item_14 ?_
    refine z_iadd h dX8_item_15 ?_
    refine y_put 18 h dX8_item_16 fX8_93 pX8_18 L57 rfl rfl ?_
    refine z_iload_n h dX8_item_19 rfl ?_
    refine z_tabIn (t := 220) h (99) dX8_item_20 (e2) (by decide) (by rfl) (by decide) ?_
    refine z_raload_n h dX8_item_220 rfl ?_
    refine z_iconst h dX8_item_221 ?_
    refine z_cVi1 h dX8_item_222 lX8_106 vX8_figures rfl L57 (c_X8_figures (zup σ1 57 18 (k + 1)) tx (k + 1) 2 (mText_fr hx (zup_nei (by omega)) (fun i => zup_ne (by omega))) (by rw [zup_eq]; rfl) (by omega) (by omega)) rfl (Nat.le_of_ble_eq_true rfl) (by decide) (fun v σ2 g2 => ?_)
    obtain ⟨g3, g4⟩ := g2
    have hv : v = 0 ∨ v = 1 := by rcases g4 with ⟨l, k', a1, rfl, -⟩ | ⟨a1, rfl⟩ <;> simp
    have g5 : mRd σ1 σ2 := fun c i hc => by
      rw [g3 c i (by unfold mRi at hc; omega) (by unfold mRi at hc; omega)]
      by_cases e : c = 57
      · rw [zup_nei (by unfold mRi at hc; omega)]
      · rw [zup_ne e]
    have g6 : ∀ c i, c ≠ 57 → c ≠ 73 → σ2 c i = σ1 c i := fun c i c1 c2 => by rw [g3 c i c2 (by omega), zup_ne c1]
    have g7 : mPlan σ2 1 P := mPlan_fr hP (fun c hc => g6 c _ (by omega) (by omega)) (fun c j a b _ => g6 c _ (by omega) (by omega)) (mCr_fr hP.2.2.1 (g6 68 _ (by omega) (by omega)) (fun j _ _ => ⟨g6 69 _ (by omega) (by omega), g6 70 _ (by omega) (by omega)⟩))
    have q1 := g7.1
    have q2 := g7.2.2.2.2.1
    have q3 := g7.2.2.1.1
    have q4 := g7.2.2.1.2.1
    have q5 := g7.2.2.2.1
    have q6 := g7.2.2.2.2
    have no : ∀ q : Prop, pItem tx k P = none → (mRd σ1 σ2 ∧ (q ∨ (pItem tx k P = none ∧ (0 : Int) = 0))) := fun q z => ⟨g5, Or.inr ⟨z, rfl⟩⟩
    refine z_if_eq h dX8_item_225 (by omega) (fun b225 => ?_) (fun b225 => ?_)
    · refine z_iconst h dX8_item_271 ?_
      refine z_irZ h hr dX8_item_272 (by decide) ?_
      exact no _ (it_no hI (by rcases g4 with ⟨l, k', a1, a2, -⟩ | ⟨a1, -⟩; (exfalso; omega); exact a1))
    · rcases g4 with ⟨l, k', a1, -, a3, a4, a5, a6, a7⟩ | ⟨-, a1⟩
      rotate_left
      · exfalso; omega
      have hJ := it_so hI a1
      have hT : pTake P 99 (l.getD 0 0) (l.getD 1 0) (l.getD 2 0) = (if pK P (l.getD 0 0) = 1 ∧ P.2.1.length < 8 then some (P.1, P.2.1 ++ [(l.getD 0 0, l.getD 1 0)], P.2.2) else none) := by unfold pTake; rw [if_neg (by decide), if_pos rfl]
      rw [hT] at hJ
      have ak := a7 (by omega)
      have t0 : σ2 73 0 = l.getD 0 0 ∧ 0 ≤ l.getD 0 0 ∧ l.getD 0 0 ≤ 99 := fig_at a4 0 (by omega)
      have t1 : σ2 73 1 = l.getD 1 0 ∧ 0 ≤ l.getD 1 0 ∧ l.getD 1 0 ≤ 99 := fig_at a4 1 (by omega)
      have hK : pK P (l.getD 0 0) = if l.getD 0 0 < P.1.length then σ2 61 (10 + l.getD 0 0) else 0 := by
        by_cases z : l.getD 0 0 < P.1.length
        · have hl : (l.getD 0 0).toNat < P.1.length := by omega
          have z2 := g7.2.1 (l.getD 0 0).toNat _ (List.getElem?_eq_getElem hl)
          rw [show (10 * 1 + (((l.getD 0 0).toNat : Nat) : Int)) = 10 + l.getD 0 0 by omega] at z2
          unfold pK
          rw [if_pos (by omega), if_pos z, z2.2.1, List.getD_eq_getElem?_getD, List.getElem?_eq_getElem hl]
          rfl
        · unfold pK
          rw [if_neg (by omega), if_neg z]
      have hK2 : pK P (l.getD 0 0) = 0 ∨ pK P (l.getD 0 0) = 1 := by
        unfold pK
        split
        · have hl : (l.getD 0 0).toNat < P.1.length := by omega
          rw [List.getD_eq_getElem?_getD, List.getElem?_eq_getElem hl]
          exact (q6.2.1 _ (List.getElem_mem hl)).2.2.1
        · exact Or.inl rfl
      refine z_raload_n h dX8_item_228 rfl ?_
      refine z_getr h dX8_item_229 fX8_40 L57 rfl ?_
      refine z_iconst h dX8_item_232 ?_
      refine z_iald h dX8_item_233 L68 (by decide) (by omega) ?_
      rw [q3]
      refine z_bipush h dX8_item_234 (by decide) ?_
      refine z_icmp_eq h dX8_item_236 (by omega) (by omega) (fun b236 => ?_) (fun b236 => ?_)
      · refine z_iconst h dX8_item_271 ?_
        refine z_irZ h hr dX8_item_272 (by first | decide | omega | simp_all) ?_
        exact no _ (by rw [hJ, if_neg (by omega)]; rfl)
      · refine z_raload_n h dX8_item_239 rfl ?_
        refine z_getr h dX8_item_240 fX8_55 L57 rfl ?_
        refine z_iconst h dX8_item_243 ?_
        refine z_iald h dX8_item_244 L73 (by decide) (by omega) ?_
        rw [t0.1]
        refine z_raload_n h dX8_item_245 rfl ?_
        refine z_getr h dX8_item_246 fX8_13 L57 rfl ?_
        refine z_iconst h dX8_item_249 ?_
        refine z_iald h dX8_item_250 L59 (by decide) (by omega) ?_
        rw [q1]
        refine z_icmp_ge h dX8_item_251 (by omega) (by omega) (fun b251 => ?_) (fun b251 => ?_)
        · rw [if_neg (by omega)] at hK
          refine z_iconst h dX8_item_271 ?_
          refine z_irZ h hr dX8_item_272 (by first | decide | omega | simp_all) ?_
          exact no _ (by rw [hJ, if_neg (by omega)]; rfl)
        · rw [if_pos (by omega)] at hK
          refine z_raload_n h dX8_item_254 rfl ?_
          refine z_getr h dX8_item_255 fX8_19 L57 rfl ?_
          refine z_bipush h dX8_item_258 (by decide) ?_
          refine z_raload_n h dX8_item_260 rfl ?_
          refine z_getr h dX8_item_261 fX8_55 L57 rfl ?_
          refine z_iconst h dX8_item_264 ?_
          refine z_iald h dX8_item_265 L73 (by decide) (by omega) ?_
          rw [t0.1]
          refine z_iadd h dX8_item_266 ?_
          refine z_iald h dX8_item_267 L61 (by decide) (by omega) ?_
          rw [← hK]
          refine z_if_ne h dX8_item_268 (by omega) (fun b268 => ?_) (fun b268 => ?_)
          · refine z_raload_n h dX8_item_273 rfl ?_
            refine z_getr h dX8_item_274 fX8_43 L57 rfl ?_
            refine z_bipush h dX8_item_277 (by decide) ?_
            refine z_raload_n h dX8_item_279 rfl ?_
            refine z_getr h dX8_item_280 fX8_40 L57 rfl ?_
            refine z_iconst h dX8_item_283 ?_
            refine z_iald h dX8_item_284 L68 (by decide) (by omega) ?_
            rw [q3]
            refine z_iadd h dX8_item_285 ?_
            refine z_raload_n h dX8_item_286 rfl ?_
            refine z_getr h dX8_item_287 fX8_55 L57 rfl ?_
            refine z_iconst h dX8_item_290 ?_
            refine z_iald h dX8_item_291 L73 (by decide) (by omega) ?_
            rw [t0.1]
            refine z_iast h dX8_item_292 L69 (by decide) (by omega) ?_
            refine z_raload_n h dX8_item_293 rfl ?_
            refine z_getr h dX8_item_294 fX8_46 L57 rfl ?_
            refine z_bipush h dX8_item_297 (by decide) ?_
            refine z_raload_n h dX8_item_299 rfl ?_
            refine z_getr h dX8_item_300 fX8_40 L57 rfl ?_
            refine z_iconst h dX8_item_303 ?_
            refine z_iald h dX8_item_304 L68 (by decide) (by omega) ?_
            try simp (disch := omega) only [zup_eq, zup_ne, zup_nei]
            rw [q3]
            refine z_iadd h dX8_item_305 ?_
            refine z_raload_n h dX8_item_306 rfl ?_
            refine z_getr h dX8_item_307 fX8_55 L57 rfl ?_
            refine z_iconst h dX8_item_310 ?_
            refine z_iald h dX8_item_311 L73 (by decide) (by omega) ?_
            try simp (disch := omega) only [zup_eq, zup_ne, zup_nei]
            rw [t1.1]
            refine z_iast h dX8_item_312 L70 (by decide) (by omega) ?_
            refine z_raload_n h dX8_item_313 rfl ?_
            refine z_getr h dX8_item_314 fX8_40 L57 rfl ?_
            refine z_iconst h dX8_item_317 ?_
            refine z_dup2 h dX8_item_318 rfl rfl ?_
            refine z_iald h dX8_item_319 L68 (by decide) (by omega) ?_
            try simp (disch := omega) only [zup_eq, zup_ne, zup_nei]
            rw [q3]
            refine z_iconst h dX8_item_320 ?_
            refine z_iadd h dX8_item_321 ?_
            refine z_iast h dX8_item_322 L68 (by decide) (by omega) ?_
            refine z_iconst h dX8_item_323 ?_
            refine z_irZ h hr dX8_item_324 (by first | decide | omega | simp_all) ?_
            refine ⟨mRd_up (mRd_up (mRd_up g5 (by unfold mRi; omega)) (by unfold mRi; omega)) (by unfold mRi; omega), Or.inl ⟨_, k', by rw [hJ, if_pos (by omega)]; rfl, rfl, ?_, ?_, a6, by omega⟩⟩
            · obtain ⟨w1, w2, w3, w4, w5⟩ := g7
              refine ⟨?_, fun j p hj => ?_, mCr_add w3 (l.getD 0 0) (l.getD 1 0) (by omega) (by omega) ?_ ?_ ?_ (fun j _ _ => ⟨?_, ?_⟩), ?_, ⟨w5.1, w5.2.1, fun c hc => ?_, w5.2.2.2⟩⟩
              · simp (disch := omega) only [zup_ne]; exact w1
              · simp (disch := omega) only [zup_ne]; exact w2 j p hj
              · rw [zup_eq]
              · rw [zup_ne (by omega), zup_ne (by omega), zup_eqi (by omega)]
              · rw [zup_ne (by omega), zup_eqi (by omega)]
              · simp (disch := omega) only [zup_ne, zup_nei]
              · simp (disch := omega) only [zup_ne, zup_nei]
              · simp (disch := omega) only [zup_ne]; exact w4
              · rcases List.mem_append.mp hc with hc | hc
                · exact w5.2.2.1 c hc
                · simp at hc
                  subst hc
                  exact ⟨t0.2.1, by show l.getD 0 0 < (P.1.length : Int); omega⟩
            · simp (disch := omega) only [zup_ne]; exact a5
          · refine z_iconst h dX8_item_271 ?_
            refine z_irZ h hr dX8_item_272 (by first | decide | omega | simp_all) ?_
            exact no _ (by rw [hJ, if_neg (by omega)]; rfl)
  by_cases e3 : tx.getD k 0 = 113
  · have hI : pItem tx k P = pIt3 P 113 (pNa tx 1 (k + 1) []) := by rw [hIa, e3]; rfl
    refine z_raload_n h dX8_item_0 rfl ?_
    refine z_raload_n h dX8_item_1 rfl ?_
    refine y_get 18 h dX8_item_2 fX8_93 L57 rfl rfl ?_
    rw [hk]
    refine z_cVi1 h dX8_item_5 lX8_96 vX8_byteAt rfl L57 (c_X8_byteAt σ tx hx k (by omega)) rfl (Nat.le_of_ble_eq_true rfl) (by decide) (fun x σ1 g1 => ?_)
    obtain ⟨rfl, g1, rfl⟩ := g1
    refine z_ist1_n h dX8_item_8 (by decide) (zst1_1 rfl) ?_
    refine z_raload_n h dX8_item_9 rfl ?_
    refine z_dup h dX8_item_10 rfl ?_
    refine y_get 18 h dX8_item_11 fX8_93 L57 rfl rfl ?_
    rw [hk]
    refine z_iconst h dX8_item_14 ?_
    refine z_iadd h dX8_item_15 ?_
    refine y_put 18 h dX8_item_16 fX8_93 pX8_18 L57 rfl rfl ?_
    refine z_iload_n h dX8_item_19 rfl ?_
    refine z_tabIn (t := 325) h (113) dX8_item_20 (e3) (by decide) (by rfl) (by decide) ?_
    refine z_raload_n h dX8_item_325 rfl ?_
    refine z_iconst h dX8_item_326 ?_
    refine z_cVi1 h dX8_item_327 lX8_106 vX8_figures rfl L57 (c_X8_figures (zup σ1 57 18 (k + 1)) tx (k + 1) 1 (mText_fr hx (zup_nei (by omega)) (fun i => zup_ne (by omega))) (by rw [zup_eq]; rfl) (by omega) (by omega)) rfl (Nat.le_of_ble_eq_true rfl) (by decide) (fun v σ2 g2 => ?_)
    obtain ⟨g3, g4⟩ := g2
    have hv : v = 0 ∨ v = 1 := by rcases g4 with ⟨l, k', a1, rfl, -⟩ | ⟨a1, rfl⟩ <;> simp
    have g5 : mRd σ1 σ2 := fun c i hc => by
      rw [g3 c i (by unfold mRi at hc; omega) (by unfold mRi at hc; omega)]
      by_cases e : c = 57
      · rw [zup_nei (by unfold mRi at hc; omega)]
      · rw [zup_ne e]
    have g6 : ∀ c i, c ≠ 57 → c ≠ 73 → σ2 c i = σ1 c i := fun c i c1 c2 => by rw [g3 c i c2 (by omega), zup_ne c1]
    have g7 : mPlan σ2 1 P := mPlan_fr hP (fun c hc => g6 c _ (by omega) (by omega)) (fun c j a b _ => g6 c _ (by omega) (by omega)) (mCr_fr hP.2.2.1 (g6 68 _ (by omega) (by omega)) (fun j _ _ => ⟨g6 69 _ (by omega) (by omega), g6 70 _ (by omega) (by omega)⟩))
    have q1 := g7.1
    have q2 := g7.2.2.2.2.1
    have q3 := g7.2.2.1.1
    have q4 := g7.2.2.1.2.1
    have q5 := g7.2.2.2.1
    have q6 := g7.2.2.2.2
    have no : ∀ q : Prop, pItem tx k P = none → (mRd σ1 σ2 ∧ (q ∨ (pItem tx k P = none ∧ (0 : Int) = 0))) := fun q z => ⟨g5, Or.inr ⟨z, rfl⟩⟩
    refine z_if_eq h dX8_item_330 (by omega) (fun b330 => ?_) (fun b330 => ?_)
    · refine z_iconst h dX8_item_344 ?_
      refine z_irZ h hr dX8_item_345 (by decide) ?_
      exact no _ (it_no hI (by rcases g4 with ⟨l, k', a1, a2, -⟩ | ⟨a1, -⟩; (exfalso; omega); exact a1))
    · rcases g4 with ⟨l, k', a1, -, a3, a4, a5, a6, a7⟩ | ⟨-, a1⟩
      rotate_left
      · exfalso; omega
      have hJ := it_so hI a1
      have hT : pTake P 113 (l.getD 0 0) (l.getD 1 0) (l.getD 2 0) = (if l.getD 0 0 ≤ 30 then some (P.1, P.2.1, l.getD 0 0, P.2.2.2) else none) := by unfold pTake; rw [if_neg (by decide), if_neg (by decide), if_neg (by decide), if_pos rfl]
      rw [hT] at hJ
      have ak := a7 (by omega)
      have t0 : σ2 73 0 = l.getD 0 0 ∧ 0 ≤ l.getD 0 0 ∧ l.getD 0 0 ≤ 99 := fig_at a4 0 (by omega)
      refine z_raload_n h dX8_item_333 rfl ?_
      refine z_getr h dX8_item_334 fX8_55 L57 rfl ?_
      refine z_iconst h dX8_item_337 ?_
      refine z_iald h dX8_item_338 L73 (by decide) (by omega) ?_
      rw [t0.1]
      refine z_bipush h dX8_item_339 (by decide) ?_
      refine z_icmp_le h dX8_item_341 (by omega) (by omega) (fun b341 => ?_) (fun b341 => ?_)
      · refine z_raload_n h dX8_item_346 rfl ?_
        refine z_getr h dX8_item_347 fX8_25 L57 rfl ?_
        refine z_iconst h dX8_item_350 ?_
        refine z_raload_n h dX8_item_351 rfl ?_
        refine z_getr h dX8_item_352 fX8_55 L57 rfl ?_
        refine z_iconst h dX8_item_355 ?_
        refine z_iald h dX8_item_356 L73 (by decide) (by omega) ?_
        rw [t0.1]
        refine z_iast h dX8_item_357 L63 (by decide) (by omega) ?_
        refine z_iconst h dX8_item_358 ?_
        refine z_irZ h hr dX8_item_359 (by first | decide | omega | simp_all) ?_
        refine ⟨mRd_up g5 (by unfold mRi; omega), Or.inl ⟨_, k', by rw [hJ, if_pos (by omega)]; rfl, rfl, mPlan_of g7 _ _ _ _ _ (fun c i hc => by simp (disch := omega) only [zup_ne]) ?_ ?_ ?_ ?_ ?_ ⟨by omega, q6.2.2.2.2⟩, ?_, a6, by omega⟩⟩
        · rw [zup_eq]
        · rw [zup_ne (by omega)]; exact q5.2.1
        · rw [zup_ne (by omega)]; exact q5.2.2.1
        · rw [zup_ne (by omega)]; exact q5.2.2.2.1
        · rw [zup_ne (by omega)]; exact q5.2.2.2.2
        · rw [zup_ne (by omega)]; exact a5
      · refine z_iconst h dX8_item_344 ?_
        refine z_irZ h hr dX8_item_345 (by first | decide | omega | simp_all) ?_
        exact no _ (by rw [hJ, if_neg (by omega)]; rfl)
  by_cases e4 : tx.getD k 0 = 115
  · have hI : pItem tx k P = pIt3 P 115 (pNa tx 2 (k + 1) []) := by rw [hIa, e4]; rfl
    refine z_raload_n h dX8_item_0 rfl ?_
    refine z_raload_n h dX8_item_1 rfl ?_
    refine y_get 18 h dX8_item_2 fX8_93 L57 rfl rfl ?_
    rw [hk]
    refine z_cVi1 h dX8_item_5 lX8_96 vX8_byteAt rfl L57 (c_X8_byteAt σ tx hx k (by omega)) rfl (Nat.le_of_ble_eq_true rfl) (by decide) (fun x σ1 g1 => ?_)
    obtain ⟨rfl, g1, rfl⟩ := g1
    refine z_ist1_n h dX8_item_8 (by decide) (zst1_1 rfl) ?_
    refine z_raload_n h dX8_item_9 rfl ?_
    refine z_dup h dX8_item_10 rfl ?_
    refine y_get 18 h dX8_item_11 fX8_93 L57 rfl rfl ?_
    rw [hk]
    refine z_iconst h dX8_item_14 ?_
    refine z_iadd h dX8_item_15 ?_
    refine y_put 18 h dX8_item_16 fX8_93 pX8_18 L57 rfl rfl ?_
    refine z_iload_n h dX8_item_19 rfl ?_
    refine z_tabIn (t := 360) h (115) dX8_item_20 (e4) (by decide) (by rfl) (by decide) ?_
    refine z_raload_n h dX8_item_360 rfl ?_
    refine z_iconst h dX8_item_361 ?_
    refine z_cVi1 h dX8_item_362 lX8_106 vX8_figures rfl L57 (c_X8_figures (zup σ1 57 18 (k + 1)) tx (k + 1) 2 (mText_fr hx (zup_nei (by omega)) (fun i => zup_ne (by omega))) (by rw [zup_eq]; rfl) (by omega) (by omega)) rfl (Nat.le_of_ble_eq_true rfl) (by decide) (fun v σ2 g2 => ?_)
    obtain ⟨g3, g4⟩ := g2
    have hv : v = 0 ∨ v = 1 := by rcases g4 with ⟨l, k', a1, rfl, -⟩ | ⟨a1, rfl⟩ <;> simp
    have g5 : mRd σ1 σ2 := fun c i hc => by
      rw [g3 c i (by unfold mRi at hc; omega) (by unfold mRi at hc; omega)]
      by_cases e : c = 57
      · rw [zup_nei (by unfold mRi at hc; omega)]
      · rw [zup_ne e]
    have g6 : ∀ c i, c ≠ 57 → c ≠ 73 → σ2 c i = σ1 c i := fun c i c1 c2 => by rw [g3 c i c2 (by omega), zup_ne c1]
    have g7 : mPlan σ2 1 P := mPlan_fr hP (fun c hc => g6 c _ (by omega) (by omega)) (fun c j a b _ => g6 c _ (by omega) (by omega)) (mCr_fr hP.2.2.1 (g6 68 _ (by omega) (by omega)) (fun j _ _ => ⟨g6 69 _ (by omega) (by omega), g6 70 _ (by omega) (by omega)⟩))
    have q1 := g7.1
    have q2 := g7.2.2.2.2.1
    have q3 := g7.2.2.1.1
    have q4 := g7.2.2.1.2.1
    have q5 := g7.2.2.2.1
    have q6 := g7.2.2.2.2
    have no : ∀ q : Prop, pItem tx k P = none → (mRd σ1 σ2 ∧ (q ∨ (pItem tx k P = none ∧ (0 : Int) = 0))) := fun q z => ⟨g5, Or.inr ⟨z, rfl⟩⟩
    refine z_if_eq h dX8_item_365 (by omega) (fun b365 => ?_) (fun b365 => ?_)
    · refine z_iconst h dX8_item_402 ?_
      refine z_irZ h hr dX8_item_403 (by decide) ?_
      exact no _ (it_no hI (by rcases g4 with ⟨l, k', a1, a2, -⟩ | ⟨a1, -⟩; (exfalso; omega); exact a1))
    · rcases g4 with ⟨l, k', a1, -, a3, a4, a5, a6, a7⟩ | ⟨-, a1⟩
      rotate_left
      · exfalso; omega
      have hJ := it_so hI a1
      have hT : pTake P 115 (l.getD 0 0) (l.getD 1 0) (l.getD 2 0) = (if 1 ≤ l.getD 0 0 ∧ l.getD 0 0 ≤ 9 ∧ 1 ≤ l.getD 1 0 ∧ l.getD 1 0 ≤ 9 then some (P.1, P.2.1, P.2.2.1, l.getD 0 0, l.getD 1 0, P.2.2.2.2.2) else none) := by unfold pTake; rw [if_neg (by decide), if_neg (by decide), if_pos rfl]
      rw [hT] at hJ
      have ak := a7 (by omega)
      have t0 : σ2 73 0 = l.getD 0 0 ∧ 0 ≤ l.getD 0 0 ∧ l.getD 0 0 ≤ 99 := fig_at a4 0 (by omega)
      have t1 : σ2 73 1 = l.getD 1 0 ∧ 0 ≤ l.getD 1 0 ∧ l.getD 1 0 ≤ 99 := fig_at a4 1 (by omega)
      refine z_raload_n h dX8_item_368 rfl ?_
      refine z_getr h dX8_item_369 fX8_55 L57 rfl ?_
      refine z_iconst h dX8_item_372 ?_
      refine z_iald h dX8_item_373 L73 (by decide) (by omega) ?_
      rw [t0.1]
      refine z_i2l h dX8_item_374 (by omega) ?_
      refine z_lconst (x := 1) h dX8_item_375 (by decide) ?_
      refine z_ldc2 (x := 9) h dX8_item_376 kX8_110 (by decide) ?_
      refine z_cSi3 h dX8_item_379 lX8_83 vX8_in (c_X8_in _ (l.getD 0 0) 1 9 (by unfold zlo; omega) (by unfold zlo; omega) (by unfold zlo; omega)) rfl (Nat.le_of_ble_eq_true rfl) (by decide) (fun x σ3 u1 => ?_)
      obtain ⟨u1, rfl⟩ := u1
      refine z_if_eq h dX8_item_382 (by omega) (fun b382 => ?_) (fun b382 => ?_)
      · refine z_iconst h dX8_item_402 ?_
        refine z_irZ h hr dX8_item_403 (by first | decide | omega | simp_all) ?_
        exact no _ (by rw [hJ, if_neg (by omega)]; rfl)
      · refine z_raload_n h dX8_item_385 rfl ?_
        refine z_getr h dX8_item_386 fX8_55 L57 rfl ?_
        refine z_iconst h dX8_item_389 ?_
        refine z_iald h dX8_item_390 L73 (by decide) (by omega) ?_
        rw [t1.1]
        refine z_i2l h dX8_item_391 (by omega) ?_
        refine z_lconst (x := 1) h dX8_item_392 (by decide) ?_
        refine z_ldc2 (x := 9) h dX8_item_393 kX8_110 (by decide) ?_
        refine z_cSi3 h dX8_item_396 lX8_83 vX8_in (c_X8_in _ (l.getD 1 0) 1 9 (by unfold zlo; omega) (by unfold zlo; omega) (by unfold zlo; omega)) rfl (Nat.le_of_ble_eq_true rfl) (by decide) (fun x2 σ4 u2 => ?_)
        obtain ⟨u2, rfl⟩ := u2
        refine z_if_ne h dX8_item_399 (by omega) (fun b399 => ?_) (fun b399 => ?_)
        · refine z_raload_n h dX8_item_404 rfl ?_
          refine z_getr h dX8_item_405 fX8_28 L57 rfl ?_
          refine z_iconst h dX8_item_408 ?_
          refine z_raload_n h dX8_item_409 rfl ?_
          refine z_getr h dX8_item_410 fX8_55 L57 rfl ?_
          refine z_iconst h dX8_item_413 ?_
          refine z_iald h dX8_item_414 L73 (by decide) (by omega) ?_
          rw [t0.1]
          refine z_iast h dX8_item_415 L64 (by decide) (by omega) ?_
          refine z_raload_n h dX8_item_416 rfl ?_
          refine z_getr h dX8_item_417 fX8_31 L57 rfl ?_
          refine z_iconst h dX8_item_420 ?_
          refine z_raload_n h dX8_item_421 rfl ?_
          refine z_getr h dX8_item_422 fX8_55 L57 rfl ?_
          refine z_iconst h dX8_item_425 ?_
          refine z_iald h dX8_item_426 L73 (by decide) (by omega) ?_
          try simp (disch := omega) only [zup_eq, zup_ne, zup_nei]
          rw [t1.1]
          refine z_iast h dX8_item_427 L65 (by decide) (by omega) ?_
          refine z_iconst h dX8_item_428 ?_
          refine z_irZ h hr dX8_item_429 (by first | decide | omega | simp_all) ?_
          refine ⟨mRd_up (mRd_up g5 (by unfold mRi; omega)) (by unfold mRi; omega), Or.inl ⟨_, k', by rw [hJ, if_pos (by omega)]; rfl, rfl, mPlan_of g7 _ _ _ _ _ (fun c i hc => by simp (disch := omega) only [zup_ne]) ?_ ?_ ?_ ?_ ?_ ⟨q6.2.2.2.1, by omega, by omega, q6.2.2.2.2.2.2⟩, ?_, a6, by omega⟩⟩
          · simp (disch := omega) only [zup_ne]; exact q5.1
          · simp (disch := omega) only [zup_ne, zup_eq]
          · simp (disch := omega) only [zup_ne, zup_eq]
          · simp (disch := omega) only [zup_ne]; exact q5.2.2.2.1
          · simp (disch := omega) only [zup_ne]; exact q5.2.2.2.2
          · simp (disch := omega) only [zup_ne]; exact a5
        · refine z_iconst h dX8_item_402 ?_
          refine z_irZ h hr dX8_item_403 (by first | decide | omega | simp_all) ?_
          exact no _ (by rw [hJ, if_neg (by omega)]; rfl)
  by_cases e5 : tx.getD k 0 = 98
  · have hI : pItem tx k P = pIt3 P 98 (pNa tx 1 (k + 1) []) := by rw [hIa, e5]; rfl
    refine z_raload_n h dX8_item_0 rfl ?_
    refine z_raload_n h dX8_item_1 rfl ?_
    refine y_get 18 h dX8_item_2 fX8_93 L57 rfl rfl ?_
    rw [hk]
    refine z_cVi1 h dX8_item_5 lX8_96 vX8_byteAt rfl L57 (c_X8_byteAt σ tx hx k (by omega)) rfl (Nat.le_of_ble_eq_true rfl) (by decide) (fun x σ1 g1 => ?_)
    obtain ⟨rfl, g1, rfl⟩ := g1
    refine z_ist1_n h dX8_item_8 (by decide) (zst1_1 rfl) ?_
    refine z_raload_n h dX8_item_9 rfl ?_
    refine z_dup h dX8_item_10 rfl ?_
    refine y_get 18 h dX8_item_11 fX8_93 L57 rfl rfl ?_
    rw [hk]
    refine z_iconst h dX8_item_14 ?_
    refine z_iadd h dX8_item_15 ?_
    refine y_put 18 h dX8_item_16 fX8_93 pX8_18 L57 rfl rfl ?_
    refine z_iload_n h dX8_item_19 rfl ?_
    refine z_tabIn (t := 430) h (98) dX8_item_20 (e5) (by decide) (by rfl) (by decide) ?_
    refine z_raload_n h dX8_item_430 rfl ?_
    refine z_iconst h dX8_item_431 ?_
    refine z_cVi1 h dX8_item_432 lX8_106 vX8_figures rfl L57 (c_X8_figures (zup σ1 57 18 (k + 1)) tx (k + 1) 1 (mText_fr hx (zup_nei (by omega)) (fun i => zup_ne (by omega))) (by rw [zup_eq]; rfl) (by omega) (by omega)) rfl (Nat.le_of_ble_eq_true rfl) (by decide) (fun v σ2 g2 => ?_)
    obtain ⟨g3, g4⟩ := g2
    have hv : v = 0 ∨ v = 1 := by rcases g4 with ⟨l, k', a1, rfl, -⟩ | ⟨a1, rfl⟩ <;> simp
    have g5 : mRd σ1 σ2 := fun c i hc => by
      rw [g3 c i (by unfold mRi at hc; omega) (by unfold mRi at hc; omega)]
      by_cases e : c = 57
      · rw [zup_nei (by unfold mRi at hc; omega)]
      · rw [zup_ne e]
    have g6 : ∀ c i, c ≠ 57 → c ≠ 73 → σ2 c i = σ1 c i := fun c i c1 c2 => by rw [g3 c i c2 (by omega), zup_ne c1]
    have g7 : mPlan σ2 1 P := mPlan_fr hP (fun c hc => g6 c _ (by omega) (by omega)) (fun c j a b _ => g6 c _ (by omega) (by omega)) (mCr_fr hP.2.2.1 (g6 68 _ (by omega) (by omega)) (fun j _ _ => ⟨g6 69 _ (by omega) (by omega), g6 70 _ (by omega) (by omega)⟩))
    have q1 := g7.1
    have q2 := g7.2.2.2.2.1
    have q3 := g7.2.2.1.1
    have q4 := g7.2.2.1.2.1
    have q5 := g7.2.2.2.1
    have q6 := g7.2.2.2.2
    have no : ∀ q : Prop, pItem tx k P = none → (mRd σ1 σ2 ∧ (q ∨ (pItem tx k P = none ∧ (0 : Int) = 0))) := fun q z => ⟨g5, Or.inr ⟨z, rfl⟩⟩
    refine z_if_ne h dX8_item_435 (by omega) (fun b435 => ?_) (fun b435 => ?_)
    · rcases g4 with ⟨l, k', a1, -, a3, a4, a5, a6, a7⟩ | ⟨-, a1⟩
      rotate_left
      · exfalso; omega
      have hJ := it_so hI a1
      have hT : pTake P 98 (l.getD 0 0) (l.getD 1 0) (l.getD 2 0) = some (P.1, P.2.1, P.2.2.1, P.2.2.2.1, P.2.2.2.2.1, l.getD 0 0, P.2.2.2.2.2.2) := by unfold pTake; rw [if_neg (by decide), if_neg (by decide), if_neg (by decide), if_neg (by decide), if_pos rfl]
      rw [hT] at hJ
      have ak := a7 (by omega)
      have t0 : σ2 73 0 = l.getD 0 0 ∧ 0 ≤ l.getD 0 0 ∧ l.getD 0 0 ≤ 99 := fig_at a4 0 (by omega)
      refine z_raload_n h dX8_item_440 rfl ?_
      refine z_getr h dX8_item_441 fX8_34 L57 rfl ?_
      refine z_iconst h dX8_item_444 ?_
      refine z_raload_n h dX8_item_445 rfl ?_
      refine z_getr h dX8_item_446 fX8_55 L57 rfl ?_
      refine z_iconst h dX8_item_449 ?_
      refine z_iald h dX8_item_450 L73 (by decide) (by omega) ?_
      rw [t0.1]
      refine z_iast h dX8_item_451 L66 (by decide) (by omega) ?_
      refine z_iconst h dX8_item_452 ?_
      refine z_irZ h hr dX8_item_453 (by first | decide | omega | simp_all) ?_
      refine ⟨mRd_up g5 (by unfold mRi; omega), Or.inl ⟨_, k', by rw [hJ]; rfl, rfl, mPlan_of g7 _ _ _ _ _ (fun c i hc => by simp (disch := omega) only [zup_ne]) ?_ ?_ ?_ ?_ ?_ ⟨q6.2.2.2.1, q6.2.2.2.2.1, q6.2.2.2.2.2.1, by omega, q6.2.2.2.2.2.2.2⟩, ?_, a6, by omega⟩⟩
      · rw [zup_ne (by omega)]; exact q5.1
      · rw [zup_ne (by omega)]; exact q5.2.1
      · rw [zup_ne (by omega)]; exact q5.2.2.1
      · rw [zup_eq]
      · rw [zup_ne (by omega)]; exact q5.2.2.2.2
      · rw [zup_ne (by omega)]; exact a5
    · refine z_iconst h dX8_item_438 ?_
      refine z_irZ h hr dX8_item_439 (by decide) ?_
      exact no _ (it_no hI (by rcases g4 with ⟨l, k', a1, a2, -⟩ | ⟨a1, -⟩; (exfalso; omega); exact a1))
  by_cases e6 : tx.getD k 0 = 108
  · have hI : pItem tx k P = pIt3 P 108 (pNa tx 1 (k + 1) []) := by rw [hIa, e6]; rfl
    refine z_raload_n h dX8_item_0 rfl ?_
    refine z_raload_n h dX8_item_1 rfl ?_
    refine y_get 18 h dX8_item_2 fX8_93 L57 rfl rfl ?_
    rw [hk]
    refine z_cVi1 h dX8_item_5 lX8_96 vX8_byteAt rfl L57 (c_X8_byteAt σ tx hx k (by omega)) rfl (Nat.le_of_ble_eq_true rfl) (by decide) (fun x σ1 g1 => ?_)
    obtain ⟨rfl, g1, rfl⟩ := g1
    refine z_ist1_n h dX8_item_8 (by decide) (zst1_1 rfl) ?_
    refine z_raload_n h dX8_item_9 rfl ?_
    refine z_dup h dX8_item_10 rfl ?_
    refine y_get 18 h dX8_item_11 fX8_93 L57 rfl rfl ?_
    rw [hk]
    refine z_iconst h dX8_item_14 ?_
    refine z_iadd h dX8_item_15 ?_
    refine y_put 18 h dX8_item_16 fX8_93 pX8_18 L57 rfl rfl ?_
    refine z_iload_n h dX8_item_19 rfl ?_
    refine z_tabIn (t := 454) h (108) dX8_item_20 (e6) (by decide) (by rfl) (by decide) ?_
    refine z_raload_n h dX8_item_454 rfl ?_
    refine z_iconst h dX8_item_455 ?_
    refine z_cVi1 h dX8_item_456 lX8_106 vX8_figures rfl L57 (c_X8_figures (zup σ1 57 18 (k + 1)) tx (k + 1) 1 (mText_fr hx (zup_nei (by omega)) (fun i => zup_ne (by omega))) (by rw [zup_eq]; rfl) (by omega) (by omega)) rfl (Nat.le_of_ble_eq_true rfl) (by decide) (fun v σ2 g2 => ?_)
    obtain ⟨g3, g4⟩ := g2
    have hv : v = 0 ∨ v = 1 := by rcases g4 with ⟨l, k', a1, rfl, -⟩ | ⟨a1, rfl⟩ <;> simp
    have g5 : mRd σ1 σ2 := fun c i hc => by
      rw [g3 c i (by unfold mRi at hc; omega) (by unfold mRi at hc; omega)]
      by_cases e : c = 57
      · rw [zup_nei (by unfold mRi at hc; omega)]
      · rw [zup_ne e]
    have g6 : ∀ c i, c ≠ 57 → c ≠ 73 → σ2 c i = σ1 c i := fun c i c1 c2 => by rw [g3 c i c2 (by omega), zup_ne c1]
    have g7 : mPlan σ2 1 P := mPlan_fr hP (fun c hc => g6 c _ (by omega) (by omega)) (fun c j a b _ => g6 c _ (by omega) (by omega)) (mCr_fr hP.2.2.1 (g6 68 _ (by omega) (by omega)) (fun j _ _ => ⟨g6 69 _ (by omega) (by omega), g6 70 _ (by omega) (by omega)⟩))
    have q1 := g7.1
    have q2 := g7.2.2.2.2.1
    have q3 := g7.2.2.1.1
    have q4 := g7.2.2.1.2.1
    have q5 := g7.2.2.2.1
    have q6 := g7.2.2.2.2
    have no : ∀ q : Prop, pItem tx k P = none → (mRd σ1 σ2 ∧ (q ∨ (pItem tx k P = none ∧ (0 : Int) = 0))) := fun q z => ⟨g5, Or.inr ⟨z, rfl⟩⟩
    refine z_if_eq h dX8_item_459 (by omega) (fun b459 => ?_) (fun b459 => ?_)
    · refine z_iconst h dX8_item_472 ?_
      refine z_irZ h hr dX8_item_473 (by decide) ?_
      exact no _ (it_no hI (by rcases g4 with ⟨l, k', a1, a2, -⟩ | ⟨a1, -⟩; (exfalso; omega); exact a1))
    · rcases g4 with ⟨l, k', a1, -, a3, a4, a5, a6, a7⟩ | ⟨-, a1⟩
      rotate_left
      · exfalso; omega
      have hJ := it_so hI a1
      have hT : pTake P 108 (l.getD 0 0) (l.getD 1 0) (l.getD 2 0) = (if l.getD 0 0 ≤ 3 then some (P.1, P.2.1, P.2.2.1, P.2.2.2.1, P.2.2.2.2.1, P.2.2.2.2.2.1, l.getD 0 0) else none) := by unfold pTake; rw [if_neg (by decide), if_neg (by decide), if_neg (by decide), if_neg (by decide), if_neg (by decide), if_pos rfl]
      rw [hT] at hJ
      have ak := a7 (by omega)
      have t0 : σ2 73 0 = l.getD 0 0 ∧ 0 ≤ l.getD 0 0 ∧ l.getD 0 0 ≤ 99 := fig_at a4 0 (by omega)
      refine z_raload_n h dX8_item_462 rfl ?_
      refine z_getr h dX8_item_463 fX8_55 L57 rfl ?_
      refine z_iconst h dX8_item_466 ?_
      refine z_iald h dX8_item_467 L73 (by decide) (by omega) ?_
      rw [t0.1]
      refine z_iconst h dX8_item_468 ?_
      refine z_icmp_le h dX8_item_469 (by omega) (by omega) (fun b469 => ?_) (fun b469 => ?_)
      · refine z_raload_n h dX8_item_474 rfl ?_
        refine z_getr h dX8_item_475 fX8_37 L57 rfl ?_
        refine z_iconst h dX8_item_478 ?_
        refine z_raload_n h dX8_item_479 rfl ?_
        refine z_getr h dX8_item_480 fX8_55 L57 rfl ?_
        refine z_iconst h dX8_item_483 ?_
        refine z_iald h dX8_item_484 L73 (by decide) (by omega) ?_
        rw [t0.1]
        refine z_iast h dX8_item_485 L67 (by decide) (by omega) ?_
        refine z_iconst h dX8_item_486 ?_
        refine z_irZ h hr dX8_item_487 (by first | decide | omega | simp_all) ?_
        refine ⟨mRd_up g5 (by unfold mRi; omega), Or.inl ⟨_, k', by rw [hJ, if_pos (by omega)]; rfl, rfl, mPlan_of g7 _ _ _ _ _ (fun c i hc => by simp (disch := omega) only [zup_ne]) ?_ ?_ ?_ ?_ ?_ ⟨q6.2.2.2.1, q6.2.2.2.2.1, q6.2.2.2.2.2.1, q6.2.2.2.2.2.2.1, by omega⟩, ?_, a6, by omega⟩⟩
        · rw [zup_ne (by omega)]; exact q5.1
        · rw [zup_ne (by omega)]; exact q5.2.1
        · rw [zup_ne (by omega)]; exact q5.2.2.1
        · rw [zup_ne (by omega)]; exact q5.2.2.2.1
        · rw [zup_eq]
        · rw [zup_ne (by omega)]; exact a5
      · refine z_iconst h dX8_item_472 ?_
        refine z_irZ h hr dX8_item_473 (by first | decide | omega | simp_all) ?_
        exact no _ (by rw [hJ, if_neg (by omega)]; rfl)
  have hN : pItem tx k P = none := by
    rw [hIa]
    refine if_pos ?_
    unfold pOf
    rw [if_neg e1, if_neg (by omega), if_neg (by omega)]

  by_cases u100 : tx.getD k 0 = 100
  · refine z_raload_n h dX8_item_0 rfl ?_
    refine z_raload_n h dX8_item_1 rfl ?_
    refine y_get 18 h dX8_item_2 fX8_93 L57 rfl rfl ?_
    rw [hk]
    refine z_cVi1 h dX8_item_5 lX8_96 vX8_byteAt rfl L57 (c_X8_byteAt σ tx hx k (by omega)) rfl (Nat.le_of_ble_eq_true rfl) (by decide) (fun x σ1 g1 => ?_)
    obtain ⟨rfl, g1, rfl⟩ := g1
    refine z_ist1_n h dX8_item_8 (by decide) (zst1_1 rfl) ?_
    refine z_raload_n h dX8_item_9 rfl ?_
    refine z_dup h dX8_item_10 rfl ?_
    refine y_get 18 h dX8_item_11 fX8_93 L57 rfl rfl ?_
    rw [hk]
    refine z_iconst h dX8_item_14 ?_
    refine z_iadd h dX8_item_15 ?_
    refine y_put 18 h dX8_item_16 fX8_93 pX8_18 L57 rfl rfl ?_
    refine z_iload_n h dX8_item_19 rfl ?_
    refine z_tabIn (t := 488) h (100) dX8_item_20 (u100) (by decide) (by rfl) (by decide) ?_
    refine z_iconst h dX8_item_488 ?_
    refine z_irZ h hr dX8_item_489 (by first | decide | omega | simp_all) ?_
    exact ⟨mRd_up mRd_rf (by unfold mRi; omega), Or.inr ⟨hN, rfl⟩⟩
  by_cases u101 : tx.getD k 0 = 101
  · refine z_raload_n h dX8_item_0 rfl ?_
    refine z_raload_n h dX8_item_1 rfl ?_
    refine y_get 18 h dX8_item_2 fX8_93 L57 rfl rfl ?_
    rw [hk]
    refine z_cVi1 h dX8_item_5 lX8_96 vX8_byteAt rfl L57 (c_X8_byteAt σ tx hx k (by omega)) rfl (Nat.le_of_ble_eq_true rfl) (by decide) (fun x σ1 g1 => ?_)
    obtain ⟨rfl, g1, rfl⟩ := g1
    refine z_ist1_n h dX8_item_8 (by decide) (zst1_1 rfl) ?_
    refine z_raload_n h dX8_item_9 rfl ?_
    refine z_dup h dX8_item_10 rfl ?_
    refine y_get 18 h dX8_item_11 fX8_93 L57 rfl rfl ?_
    rw [hk]
    refine z_iconst h dX8_item_14 ?_
    refine z_iadd h dX8_item_15 ?_
    refine y_put 18 h dX8_item_16 fX8_93 pX8_18 L57 rfl rfl ?_
    refine z_iload_n h dX8_item_19 rfl ?_
    refine z_tabIn (t := 488) h (101) dX8_item_20 (u101) (by decide) (by rfl) (by decide) ?_
    refine z_iconst h dX8_item_488 ?_
    refine z_irZ h hr dX8_item_489 (by first | decide | omega | simp_all) ?_
    exact ⟨mRd_up mRd_rf (by unfold mRi; omega), Or.inr ⟨hN, rfl⟩⟩
  by_cases u102 : tx.getD k 0 = 102
  · refine z_raload_n h dX8_item_0 rfl ?_
    refine z_raload_n h dX8_item_1 rfl ?_
    refine y_get 18 h dX8_item_2 fX8_93 L57 rfl rfl ?_
    rw [hk]
    refine z_cVi1 h dX8_item_5 lX8_96 vX8_byteAt rfl L57 (c_X8_byteAt σ tx hx k (by omega)) rfl (Nat.le_of_ble_eq_true rfl) (by decide) (fun x σ1 g1 => ?_)
    obtain ⟨rfl, g1, rfl⟩ := g1
    refine z_ist1_n h dX8_item_8 (by decide) (zst1_1 rfl) ?_
    refine z_raload_n h dX8_item_9 rfl ?_
    refine z_dup h dX8_item_10 rfl ?_
    refine y_get 18 h dX8_item_11 fX8_93 L57 rfl rfl ?_
    rw [hk]
    refine z_iconst h dX8_item_14 ?_
    refine z_iadd h dX8_item_15 ?_
    refine y_put 18 h dX8_item_16 fX8_93 pX8_18 L57 rfl rfl ?_
    refine z_iload_n h dX8_item_19 rfl ?_
    refine z_tabIn (t := 488) h (102) dX8_item_20 (u102) (by decide) (by rfl) (by decide) ?_
    refine z_iconst h dX8_item_488 ?_
    refine z_irZ h hr dX8_item_489 (by first | decide | omega | simp_all) ?_
    exact ⟨mRd_up mRd_rf (by unfold mRi; omega), Or.inr ⟨hN, rfl⟩⟩
  by_cases u103 : tx.getD k 0 = 103
  · refine z_raload_n h dX8_item_0 rfl ?_
    refine z_raload_n h dX8_item_1 rfl ?_
    refine y_get 18 h dX8_item_2 fX8_93 L57 rfl rfl ?_
    rw [hk]
    refine z_cVi1 h dX8_item_5 lX8_96 vX8_byteAt rfl L57 (c_X8_byteAt σ tx hx k (by omega)) rfl (Nat.le_of_ble_eq_true rfl) (by decide) (fun x σ1 g1 => ?_)
    obtain ⟨rfl, g1, rfl⟩ := g1
    refine z_ist1_n h dX8_item_8 (by decide) (zst1_1 rfl) ?_
    refine z_raload_n h dX8_item_9 rfl ?_
    refine z_dup h dX8_item_10 rfl ?_
    refine y_get 18 h dX8_item_11 fX8_93 L57 rfl rfl ?_
    rw [hk]
    refine z_iconst h dX8_item_14 ?_
    refine z_iadd h dX8_item_15 ?_
    refine y_put 18 h dX8_item_16 fX8_93 pX8_18 L57 rfl rfl ?_
    refine z_iload_n h dX8_item_19 rfl ?_
    refine z_tabIn (t := 488) h (103) dX8_item_20 (u103) (by decide) (by rfl) (by decide) ?_
    refine z_iconst h dX8_item_488 ?_
    refine z_irZ h hr dX8_item_489 (by first | decide | omega | simp_all) ?_
    exact ⟨mRd_up mRd_rf (by unfold mRi; omega), Or.inr ⟨hN, rfl⟩⟩
  by_cases u104 : tx.getD k 0 = 104
  · refine z_raload_n h dX8_item_0 rfl ?_
    refine z_raload_n h dX8_item_1 rfl ?_
    refine y_get 18 h dX8_item_2 fX8_93 L57 rfl rfl ?_
    rw [hk]
    refine z_cVi1 h dX8_item_5 lX8_96 vX8_byteAt rfl L57 (c_X8_byteAt σ tx hx k (by omega)) rfl (Nat.le_of_ble_eq_true rfl) (by decide) (fun x σ1 g1 => ?_)
    obtain ⟨rfl, g1, rfl⟩ := g1
    refine z_ist1_n h dX8_item_8 (by decide) (zst1_1 rfl) ?_
    refine z_raload_n h dX8_item_9 rfl ?_
    refine z_dup h dX8_item_10 rfl ?_
    refine y_get 18 h dX8_item_11 fX8_93 L57 rfl rfl ?_
    rw [hk]
    refine z_iconst h dX8_item_14 ?_
    refine z_iadd h dX8_item_15 ?_
    refine y_put 18 h dX8_item_16 fX8_93 pX8_18 L57 rfl rfl ?_
    refine z_iload_n h dX8_item_19 rfl ?_
    refine z_tabIn (t := 488) h (104) dX8_item_20 (u104) (by decide) (by rfl) (by decide) ?_
    refine z_iconst h dX8_item_488 ?_
    refine z_irZ h hr dX8_item_489 (by first | decide | omega | simp_all) ?_
    exact ⟨mRd_up mRd_rf (by unfold mRi; omega), Or.inr ⟨hN, rfl⟩⟩
  by_cases u105 : tx.getD k 0 = 105
  · refine z_raload_n h dX8_item_0 rfl ?_
    refine z_raload_n h dX8_item_1 rfl ?_
    refine y_get 18 h dX8_item_2 fX8_93 L57 rfl rfl ?_
    rw [hk]
    refine z_cVi1 h dX8_item_5 lX8_96 vX8_byteAt rfl L57 (c_X8_byteAt σ tx hx k (by omega)) rfl (Nat.le_of_ble_eq_true rfl) (by decide) (fun x σ1 g1 => ?_)
    obtain ⟨rfl, g1, rfl⟩ := g1
    refine z_ist1_n h dX8_item_8 (by decide) (zst1_1 rfl) ?_
    refine z_raload_n h dX8_item_9 rfl ?_
    refine z_dup h dX8_item_10 rfl ?_
    refine y_get 18 h dX8_item_11 fX8_93 L57 rfl rfl ?_
    rw [hk]
    refine z_iconst h dX8_item_14 ?_
    refine z_iadd h dX8_item_15 ?_
    refine y_put 18 h dX8_item_16 fX8_93 pX8_18 L57 rfl rfl ?_
    refine z_iload_n h dX8_item_19 rfl ?_
    refine z_tabIn (t := 488) h (105) dX8_item_20 (u105) (by decide) (by rfl) (by decide) ?_
    refine z_iconst h dX8_item_488 ?_
    refine z_irZ h hr dX8_item_489 (by first | decide | omega | simp_all) ?_
    exact ⟨mRd_up mRd_rf (by unfold mRi; omega), Or.inr ⟨hN, rfl⟩⟩
  by_cases u106 : tx.getD k 0 = 106
  · refine z_raload_n h dX8_item_0 rfl ?_
    refine z_raload_n h dX8_item_1 rfl ?_
    refine y_get 18 h dX8_item_2 fX8_93 L57 rfl rfl ?_
    rw [hk]
    refine z_cVi1 h dX8_item_5 lX8_96 vX8_byteAt rfl L57 (c_X8_byteAt σ tx hx k (by omega)) rfl (Nat.le_of_ble_eq_true rfl) (by decide) (fun x σ1 g1 => ?_)
    obtain ⟨rfl, g1, rfl⟩ := g1
    refine z_ist1_n h dX8_item_8 (by decide) (zst1_1 rfl) ?_
    refine z_raload_n h dX8_item_9 rfl ?_
    refine z_dup h dX8_item_10 rfl ?_
    refine y_get 18 h dX8_item_11 fX8_93 L57 rfl rfl ?_
    rw [hk]
    refine z_iconst h dX8_item_14 ?_
    refine z_iadd h dX8_item_15 ?_
    refine y_put 18 h dX8_item_16 fX8_93 pX8_18 L57 rfl rfl ?_
    refine z_iload_n h dX8_item_19 rfl ?_
    refine z_tabIn (t := 488) h (106) dX8_item_20 (u106) (by decide) (by rfl) (by decide) ?_
    refine z_iconst h dX8_item_488 ?_
    refine z_irZ h hr dX8_item_489 (by first | decide | omega | simp_all) ?_
    exact ⟨mRd_up mRd_rf (by unfold mRi; omega), Or.inr ⟨hN, rfl⟩⟩
  by_cases u107 : tx.getD k 0 = 107
  · refine z_raload_n h dX8_item_0 rfl ?_
    refine z_raload_n h dX8_item_1 rfl ?_
    refine y_get 18 h dX8_item_2 fX8_93 L57 rfl rfl ?_
    rw [hk]
    refine z_cVi1 h dX8_item_5 lX8_96 vX8_byteAt rfl L57 (c_X8_byteAt σ tx hx k (by omega)) rfl (Nat.le_of_ble_eq_true rfl) (by decide) (fun x σ1 g1 => ?_)
    obtain ⟨rfl, g1, rfl⟩ := g1
    refine z_ist1_n h dX8_item_8 (by decide) (zst1_1 rfl) ?_
    refine z_raload_n h dX8_item_9 rfl ?_
    refine z_dup h dX8_item_10 rfl ?_
    refine y_get 18 h dX8_item_11 fX8_93 L57 rfl rfl ?_
    rw [hk]
    refine z_iconst h dX8_item_14 ?_
    refine z_iadd h dX8_item_15 ?_
    refine y_put 18 h dX8_item_16 fX8_93 pX8_18 L57 rfl rfl ?_
    refine z_iload_n h dX8_item_19 rfl ?_
    refine z_tabIn (t := 488) h (107) dX8_item_20 (u107) (by decide) (by rfl) (by decide) ?_
    refine z_iconst h dX8_item_488 ?_
    refine z_irZ h hr dX8_item_489 (by first | decide | omega | simp_all) ?_
    exact ⟨mRd_up mRd_rf (by unfold mRi; omega), Or.inr ⟨hN, rfl⟩⟩
  by_cases u109 : tx.getD k 0 = 109
  · refine z_raload_n h dX8_item_0 rfl ?_
    refine z_raload_n h dX8_item_1 rfl ?_
    refine y_get 18 h dX8_item_2 fX8_93 L57 rfl rfl ?_
    rw [hk]
    refine z_cVi1 h dX8_item_5 lX8_96 vX8_byteAt rfl L57 (c_X8_byteAt σ tx hx k (by omega)) rfl (Nat.le_of_ble_eq_true rfl) (by decide) (fun x σ1 g1 => ?_)
    obtain ⟨rfl, g1, rfl⟩ := g1
    refine z_ist1_n h dX8_item_8 (by decide) (zst1_1 rfl) ?_
    refine z_raload_n h dX8_item_9 rfl ?_
    refine z_dup h dX8_item_10 rfl ?_
    refine y_get 18 h dX8_item_11 fX8_93 L57 rfl rfl ?_
    rw [hk]
    refine z_iconst h dX8_item_14 ?_
    refine z_iadd h dX8_item_15 ?_
    refine y_put 18 h dX8_item_16 fX8_93 pX8_18 L57 rfl rfl ?_
    refine z_iload_n h dX8_item_19 rfl ?_
    refine z_tabIn (t := 488) h (109) dX8_item_20 (u109) (by decide) (by rfl) (by decide) ?_
    refine z_iconst h dX8_item_488 ?_
    refine z_irZ h hr dX8_item_489 (by first | decide | omega | simp_all) ?_
    exact ⟨mRd_up mRd_rf (by unfold mRi; omega), Or.inr ⟨hN, rfl⟩⟩
  by_cases u110 : tx.getD k 0 = 110
  · refine z_raload_n h dX8_item_0 rfl ?_
    refine z_raload_n h dX8_item_1 rfl ?_
    refine y_get 18 h dX8_item_2 fX8_93 L57 rfl rfl ?_
    rw [hk]
    refine z_cVi1 h dX8_item_5 lX8_96 vX8_byteAt rfl L57 (c_X8_byteAt σ tx hx k (by omega)) rfl (Nat.le_of_ble_eq_true rfl) (by decide) (fun x σ1 g1 => ?_)
    obtain ⟨rfl, g1, rfl⟩ := g1
    refine z_ist1_n h dX8_item_8 (by decide) (zst1_1 rfl) ?_
    refine z_raload_n h dX8_item_9 rfl ?_
    refine z_dup h dX8_item_10 rfl ?_
    refine y_get 18 h dX8_item_11 fX8_93 L57 rfl rfl ?_
    rw [hk]
    refine z_iconst h dX8_item_14 ?_
    refine z_iadd h dX8_item_15 ?_
    refine y_put 18 h dX8_item_16 fX8_93 pX8_18 L57 rfl rfl ?_
    refine z_iload_n h dX8_item_19 rfl ?_
    refine z_tabIn (t := 488) h (110) dX8_item_20 (u110) (by decide) (by rfl) (by decide) ?_
    refine z_iconst h dX8_item_488 ?_
    refine z_irZ h hr dX8_item_489 (by first | decide | omega | simp_all) ?_
    exact ⟨mRd_up mRd_rf (by unfold mRi; omega), Or.inr ⟨hN, rfl⟩⟩
  by_cases u111 : tx.getD k 0 = 111
  · refine z_raload_n h dX8_item_0 rfl ?_
    refine z_raload_n h dX8_item_1 rfl ?_
    refine y_get 18 h dX8_item_2 fX8_93 L57 rfl rfl ?_
    rw [hk]
    refine z_cVi1 h dX8_item_5 lX8_96 vX8_byteAt rfl L57 (c_X8_byteAt σ tx hx k (by omega)) rfl (Nat.le_of_ble_eq_true rfl) (by decide) (fun x σ1 g1 => ?_)
    obtain ⟨rfl, g1, rfl⟩ := g1
    refine z_ist1_n h dX8_item_8 (by decide) (zst1_1 rfl) ?_
    refine z_raload_n h dX8_item_9 rfl ?_
    refine z_dup h dX8_item_10 rfl ?_
    refine y_get 18 h dX8_item_11 fX8_93 L57 rfl rfl ?_
    rw [hk]
    refine z_iconst h dX8_item_14 ?_
    refine z_iadd h dX8_item_15 ?_
    refine y_put 18 h dX8_item_16 fX8_93 pX8_18 L57 rfl rfl ?_
    refine z_iload_n h dX8_item_19 rfl ?_
    refine z_tabIn (t := 488) h (111) dX8_item_20 (u111) (by decide) (by rfl) (by decide) ?_
    refine z_iconst h dX8_item_488 ?_
    refine z_irZ h hr dX8_item_489 (by first | decide | omega | simp_all) ?_
    exact ⟨mRd_up mRd_rf (by unfold mRi; omega), Or.inr ⟨hN, rfl⟩⟩
  by_cases u114 : tx.getD k 0 = 114
  · refine z_raload_n h dX8_item_0 rfl ?_
    refine z_raload_n h dX8_item_1 rfl ?_
    refine y_get 18 h dX8_item_2 fX8_93 L57 rfl rfl ?_
    rw [hk]
    refine z_cVi1 h dX8_item_5 lX8_96 vX8_byteAt rfl L57 (c_X8_byteAt σ tx hx k (by omega)) rfl (Nat.le_of_ble_eq_true rfl) (by decide) (fun x σ1 g1 => ?_)
    obtain ⟨rfl, g1, rfl⟩ := g1
    refine z_ist1_n h dX8_item_8 (by decide) (zst1_1 rfl) ?_
    refine z_raload_n h dX8_item_9 rfl ?_
    refine z_dup h dX8_item_10 rfl ?_
    refine y_get 18 h dX8_item_11 fX8_93 L57 rfl rfl ?_
    rw [hk]
    refine z_iconst h dX8_item_14 ?_
    refine z_iadd h dX8_item_15 ?_
    refine y_put 18 h dX8_item_16 fX8_93 pX8_18 L57 rfl rfl ?_
    refine z_iload_n h dX8_item_19 rfl ?_
    refine z_tabIn (t := 488) h (114) dX8_item_20 (u114) (by decide) (by rfl) (by decide) ?_
    refine z_iconst h dX8_item_488 ?_
    refine z_irZ h hr dX8_item_489 (by first | decide | omega | simp_all) ?_
    exact ⟨mRd_up mRd_rf (by unfold mRi; omega), Or.inr ⟨hN, rfl⟩⟩
  refine z_raload_n h dX8_item_0 rfl ?_
  refine z_raload_n h dX8_item_1 rfl ?_
  refine y_get 18 h dX8_item_2 fX8_93 L57 rfl rfl ?_
  rw [hk]
  refine z_cVi1 h dX8_item_5 lX8_96 vX8_byteAt rfl L57 (c_X8_byteAt σ tx hx k (by omega)) rfl (Nat.le_of_ble_eq_true rfl) (by decide) (fun x σ1 g1 => ?_)
  obtain ⟨rfl, g1, rfl⟩ := g1
  refine z_ist1_n h dX8_item_8 (by decide) (zst1_1 rfl) ?_
  refine z_raload_n h dX8_item_9 rfl ?_
  refine z_dup h dX8_item_10 rfl ?_
  refine y_get 18 h dX8_item_11 fX8_93 L57 rfl rfl ?_
  rw [hk]
  refine z_iconst h dX8_item_14 ?_
  refine z_iadd h dX8_item_15 ?_
  refine y_put 18 h dX8_item_16 fX8_93 pX8_18 L57 rfl rfl ?_
  refine z_iload_n h dX8_item_19 rfl ?_
  refine z_tabOut (t := 488) h dX8_item_20 (by omega) (by omega) (by decide) ?_
  refine z_iconst h dX8_item_488 ?_
  refine z_irZ h hr dX8_item_489 (by first | decide | omega | simp_all) ?_
  exact ⟨mRd_up mRd_rf (by unfold mRi; omega), Or.inr ⟨hN, rfl⟩⟩
theorem c_X8_readAll (σ : zM) (tx : List Int) (hx : mText σ tx) : zCi mX8_readAll (fun u => [zr u 57]) σ (fun r σ' => mRd σ σ' ∧ r = (pAll tx 300 0 zP0).1 ∧ (-4 ≤ r ∧ r ≤ 300) ∧ (r = -4 → mPlan σ' 1 (pAll tx 300 0 zP0).2)) := by
  refine zCi_mk (own := RX8) rfl (by decide +kernel) (fun w => [some (zr w 57), none]) (fun _ => rfl) (fun _ => Nat.le_of_ble_eq_true rfl) ?_
  intro Γ h hr
  have tl := hx.2.1
  have L : ∀ (f : Nat) (σ1 : zM) (k : Nat) (P1 : zP) (l1 : Option Value), k ≤ 301 → tx.length ≤ f + k → mPlan σ1 1 P1 → σ1 57 18 = k → mRd σ σ1 → pAll tx 300 0 zP0 = pAll tx f k P1 → zV Γ σ1 10 [some (zr (zw Γ) 57), l1] [] := by
    intro f
    induction f with
    | zero =>
      intro σ1 k P1 l1 hk hf h1 h2 h3 h4
      have g1 := (mText_rd hx h3).1
      refine z_raload_n h dX8_readAll_10 rfl ?_
      refine y_get 18 h dX8_readAll_11 fX8_93 L57 rfl rfl ?_
      refine z_raload_n h dX8_readAll_14 rfl ?_
      refine y_get 0 h dX8_readAll_15 fX8_87 L57 rfl rfl ?_
      refine z_icmp_ge h dX8_readAll_18 (by omega) (by omega) (fun b18 => ?_) (fun b18 => by exfalso; omega)
      refine z_bipush h dX8_readAll_38 (by decide) ?_
      refine z_irI h hr dX8_readAll_40 ?_
      rw [h4]
      exact ⟨h3, rfl, by omega, fun _ => h1⟩
    | succ f ih =>
      intro σ1 k P1 l1 hk hf h1 h2 h3 h4
      have g0 := mText_rd hx h3
      have g1 := g0.1
      have h4 : pAll tx 300 0 zP0 = (if k < tx.length then (match pItem tx k P1 with
        | none => ((k : Int), P1)
        | some (P', k') => pAll tx f k' P') else (-4, P1)) := h4
      refine z_raload_n h dX8_readAll_10 rfl ?_
      refine y_get 18 h dX8_readAll_11 fX8_93 L57 rfl rfl ?_
      refine z_raload_n h dX8_readAll_14 rfl ?_
      refine y_get 0 h dX8_readAll_15 fX8_87 L57 rfl rfl ?_
      refine z_icmp_ge h dX8_readAll_18 (by omega) (by omega) (fun b18 => ?_) (fun b18 => ?_)
      · refine z_bipush h dX8_readAll_38 (by decide) ?_
        refine z_irI h hr dX8_readAll_40 ?_
        rw [if_neg (by omega)] at h4
        rw [h4]
        exact ⟨h3, rfl, by omega, fun _ => h1⟩
      · refine z_raload_n h dX8_readAll_21 rfl ?_
        refine y_get 18 h dX8_readAll_22 fX8_93 L57 rfl rfl ?_
        rw [h2]
        refine z_ist1_n h dX8_readAll_25 (by decide) (zst1_1 rfl) ?_
        refine z_raload_n h dX8_readAll_26 rfl ?_
        refine z_cVi0 h dX8_readAll_27 lX8_112 vX8_item rfl L57 (c_X8_item σ1 tx k P1 h1 g0 h2 (by omega)) rfl (Nat.le_of_ble_eq_true rfl) (by decide) (fun v σ2 h5 => ?_)
        obtain ⟨h6, h8⟩ := h5
        have hv : v = 0 ∨ v = 1 := by rcases h8 with ⟨P', k', a1, rfl, a3⟩ | ⟨a1, rfl⟩ <;> simp
        rw [if_pos (by omega)] at h4
        refine z_if_ne h dX8_readAll_30 (by omega) (fun b30 => ?_) (fun b30 => ?_)
        · refine z_goto h dX8_readAll_35 ?_
          rcases h8 with ⟨P', k', a1, -, a3, a4, a5, a6⟩ | ⟨a1, rfl⟩
          rotate_left
          · exfalso; omega
          rw [a1] at h4
          exact ih σ2 k' P' (some (zi k)) a5 (by omega) a3 a4 (mRd_tr h3 h6) h4
        · refine z_iload_n h dX8_readAll_33 rfl ?_
          refine z_irI h hr dX8_readAll_34 ?_
          rcases h8 with ⟨P', k', a1, rfl, a3⟩ | ⟨a1, rfl⟩
          · exfalso; omega
          · rw [a1] at h4
            rw [h4]
            exact ⟨mRd_tr h3 h6, rfl, by omega, fun z => by omega⟩
  refine z_raload_n h dX8_readAll_0 rfl ?_
  refine z_iconst h dX8_readAll_1 ?_
  refine z_cVv1 h dX8_readAll_2 lX8_77 vX8_noMorning rfl L57 (c_X8_noMorning σ 1 (Or.inr rfl)) rfl (Nat.le_of_ble_eq_true rfl) (by decide) (fun σ1 h1 => ?_)
  subst h1
  refine z_raload_n h dX8_readAll_5 rfl ?_
  refine z_iconst h dX8_readAll_6 ?_
  refine y_put 18 h dX8_readAll_7 fX8_93 pX8_18 L57 rfl rfl ?_
  refine L 300 _ 0 zP0 none (by omega) (by omega) ⟨?_, by simp [zP0], ⟨?_, by simp [zP0], by simp [zP0]⟩, ⟨?_, ?_, ?_, ?_, ?_⟩, by simp [zP0, zPok]⟩ (zup_eq _ _ _ _) (mRd_up (mRd_up (mRd_up (mRd_up (mRd_up (mRd_up (mRd_up (mRd_up mRd_rf ?_) ?_) ?_) ?_) ?_) ?_) ?_) ?_) rfl
  · simp (disch := omega) only [zup_ne, zup_eq]; rfl
  · simp (disch := omega) only [zup_ne, zup_eq]; rfl
  · simp (disch := omega) only [zup_ne, zup_eq]; rfl
  · simp (disch := omega) only [zup_ne, zup_eq]; rfl
  · simp (disch := omega) only [zup_ne, zup_eq]; rfl
  · simp (disch := omega) only [zup_ne, zup_eq]; rfl
  · simp (disch := omega) only [zup_ne, zup_eq]; rfl
  all_goals (unfold mRi; omega)
